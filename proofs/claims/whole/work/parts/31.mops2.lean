abbrev mX10_read : zM := (yX10_read, cX10_read, 2, (some .int), [])
theorem okX10_read : zMok mX10_read 1 := ⟨by decide, by decide, by decide +kernel⟩
theorem dX10_read_0 : decode cX10_read 0 = .ok (.aload_n 0, 1) := by decide +kernel
theorem dX10_read_1 : decode cX10_read 1 = .ok (.aload_n 0, 1) := by decide +kernel
theorem dX10_read_2 : decode cX10_read 2 = .ok (.iload_n 1, 1) := by decide +kernel
theorem dX10_read_3 : decode cX10_read 3 = .ok (.i2l, 1) := by decide +kernel
theorem dX10_read_4 : decode cX10_read 4 = .ok (.lconst 1, 1) := by decide +kernel
theorem dX10_read_5 : decode cX10_read 5 = .ok (.ldc2_w 428, 3) := by decide +kernel
theorem dX10_read_8 : decode cX10_read 8 = .ok (.invokestatic 74, 3) := by decide +kernel
theorem dX10_read_11 : decode cX10_read 11 = .ok (.invokevirtual 220, 3) := by decide +kernel
theorem dX10_read_14 : decode cX10_read 14 = .ok (.invokevirtual 449, 3) := by decide +kernel
theorem cw_RX10_449 : zCwV RX10 449 mX10_tried := zall [2173, 2175, 106, 128, 2176] (by decide +kernel) (by decide +kernel)
theorem dX10_read_17 : decode cX10_read 17 = .ok (.ifCond .eq 15, 3) := by decide +kernel
theorem dX10_read_32 : decode cX10_read 32 = .ok (.iconst 0, 1) := by decide +kernel
theorem dX10_read_33 : decode cX10_read 33 = .ok (.ireturn, 1) := by decide +kernel
theorem dX10_read_20 : decode cX10_read 20 = .ok (.aload_n 0, 1) := by decide +kernel
theorem dX10_read_21 : decode cX10_read 21 = .ok (.aload_n 0, 1) := by decide +kernel
theorem dX10_read_22 : decode cX10_read 22 = .ok (.iload_n 1, 1) := by decide +kernel
theorem dX10_read_23 : decode cX10_read 23 = .ok (.invokevirtual 375, 3) := by decide +kernel
theorem cw_RX10_375 : zCwV RX10 375 mX10_readNow := zall [1800, 1802, 60, 128, 1803] (by decide +kernel) (by decide +kernel)
theorem dX10_read_26 : decode cX10_read 26 = .ok (.invokevirtual 452, 3) := by decide +kernel
theorem cw_RX10_452 : zCwV RX10 452 mX10_done := zall [2177, 2179, 107, 128, 2180] (by decide +kernel) (by decide +kernel)
theorem dX10_read_29 : decode cX10_read 29 = .ok (.goto 4, 3) := by decide +kernel
abbrev mX10_setAside : zM := (yX10_setAside, cX10_setAside, 3, (some .int), [])
theorem okX10_setAside : zMok mX10_setAside 1 := ⟨by decide, by decide, by decide +kernel⟩
theorem dX10_setAside_0 : decode cX10_setAside 0 = .ok (.aload_n 0, 1) := by decide +kernel
theorem dX10_setAside_1 : decode cX10_setAside 1 = .ok (.iload_n 1, 1) := by decide +kernel
theorem dX10_setAside_2 : decode cX10_setAside 2 = .ok (.invokevirtual 205, 3) := by decide +kernel
theorem dX10_setAside_5 : decode cX10_setAside 5 = .ok (.istore_n 2, 1) := by decide +kernel
theorem dX10_setAside_6 : decode cX10_setAside 6 = .ok (.aload_n 0, 1) := by decide +kernel
theorem dX10_setAside_7 : decode cX10_setAside 7 = .ok (.aload_n 0, 1) := by decide +kernel
theorem dX10_setAside_8 : decode cX10_setAside 8 = .ok (.iload_n 2, 1) := by decide +kernel
theorem dX10_setAside_9 : decode cX10_setAside 9 = .ok (.iload_n 2, 1) := by decide +kernel
theorem dX10_setAside_10 : decode cX10_setAside 10 = .ok (.ifCond .eq 16, 3) := by decide +kernel
theorem dX10_setAside_26 : decode cX10_setAside 26 = .ok (.iconst 0, 1) := by decide +kernel
theorem dX10_setAside_27 : decode cX10_setAside 27 = .ok (.invokevirtual 406, 3) := by decide +kernel
theorem dX10_setAside_30 : decode cX10_setAside 30 = .ok (.invokevirtual 449, 3) := by decide +kernel
theorem dX10_setAside_33 : decode cX10_setAside 33 = .ok (.ifCond .eq 16, 3) := by decide +kernel
theorem dX10_setAside_49 : decode cX10_setAside 49 = .ok (.iconst 0, 1) := by decide +kernel
theorem dX10_setAside_50 : decode cX10_setAside 50 = .ok (.ireturn, 1) := by decide +kernel
theorem dX10_setAside_13 : decode cX10_setAside 13 = .ok (.aload_n 0, 1) := by decide +kernel
theorem dX10_setAside_14 : decode cX10_setAside 14 = .ok (.iload_n 1, 1) := by decide +kernel
theorem dX10_setAside_15 : decode cX10_setAside 15 = .ok (.iconst 5, 1) := by decide +kernel
theorem dX10_setAside_16 : decode cX10_setAside 16 = .ok (.invokevirtual 102, 3) := by decide +kernel
theorem dX10_setAside_19 : decode cX10_setAside 19 = .ok (.ifCond .ne 7, 3) := by decide +kernel
theorem dX10_setAside_22 : decode cX10_setAside 22 = .ok (.iconst 1, 1) := by decide +kernel
theorem dX10_setAside_23 : decode cX10_setAside 23 = .ok (.goto 4, 3) := by decide +kernel
theorem dX10_setAside_36 : decode cX10_setAside 36 = .ok (.aload_n 0, 1) := by decide +kernel
theorem dX10_setAside_37 : decode cX10_setAside 37 = .ok (.aload_n 0, 1) := by decide +kernel
theorem dX10_setAside_38 : decode cX10_setAside 38 = .ok (.iload_n 1, 1) := by decide +kernel
theorem dX10_setAside_39 : decode cX10_setAside 39 = .ok (.iconst 1, 1) := by decide +kernel
theorem dX10_setAside_40 : decode cX10_setAside 40 = .ok (.invokevirtual 378, 3) := by decide +kernel
theorem cw_RX10_378 : zCwV RX10 378 mX10_asideNow := zall [1820, 1822, 65, 128, 1823] (by decide +kernel) (by decide +kernel)
theorem dX10_setAside_43 : decode cX10_setAside 43 = .ok (.invokevirtual 452, 3) := by decide +kernel
theorem dX10_setAside_46 : decode cX10_setAside 46 = .ok (.goto 4, 3) := by decide +kernel
abbrev mX10_takeBack : zM := (yX10_takeBack, cX10_takeBack, 3, (some .int), [])
theorem okX10_takeBack : zMok mX10_takeBack 1 := ⟨by decide, by decide, by decide +kernel⟩
theorem dX10_takeBack_0 : decode cX10_takeBack 0 = .ok (.aload_n 0, 1) := by decide +kernel
theorem dX10_takeBack_1 : decode cX10_takeBack 1 = .ok (.iload_n 1, 1) := by decide +kernel
theorem dX10_takeBack_2 : decode cX10_takeBack 2 = .ok (.invokevirtual 205, 3) := by decide +kernel
theorem dX10_takeBack_5 : decode cX10_takeBack 5 = .ok (.istore_n 2, 1) := by decide +kernel
theorem dX10_takeBack_6 : decode cX10_takeBack 6 = .ok (.aload_n 0, 1) := by decide +kernel
theorem dX10_takeBack_7 : decode cX10_takeBack 7 = .ok (.aload_n 0, 1) := by decide +kernel
theorem dX10_takeBack_8 : decode cX10_takeBack 8 = .ok (.iload_n 2, 1) := by decide +kernel
theorem dX10_takeBack_9 : decode cX10_takeBack 9 = .ok (.iload_n 2, 1) := by decide +kernel
theorem dX10_takeBack_10 : decode cX10_takeBack 10 = .ok (.ifCond .eq 17, 3) := by decide +kernel
theorem dX10_takeBack_27 : decode cX10_takeBack 27 = .ok (.iconst 0, 1) := by decide +kernel
theorem dX10_takeBack_28 : decode cX10_takeBack 28 = .ok (.invokevirtual 406, 3) := by decide +kernel
theorem dX10_takeBack_31 : decode cX10_takeBack 31 = .ok (.invokevirtual 449, 3) := by decide +kernel
theorem dX10_takeBack_34 : decode cX10_takeBack 34 = .ok (.ifCond .eq 16, 3) := by decide +kernel
theorem dX10_takeBack_50 : decode cX10_takeBack 50 = .ok (.iconst 0, 1) := by decide +kernel
theorem dX10_takeBack_51 : decode cX10_takeBack 51 = .ok (.ireturn, 1) := by decide +kernel
theorem dX10_takeBack_13 : decode cX10_takeBack 13 = .ok (.aload_n 0, 1) := by decide +kernel
theorem dX10_takeBack_14 : decode cX10_takeBack 14 = .ok (.iload_n 1, 1) := by decide +kernel
theorem dX10_takeBack_15 : decode cX10_takeBack 15 = .ok (.iconst 5, 1) := by decide +kernel
theorem dX10_takeBack_16 : decode cX10_takeBack 16 = .ok (.invokevirtual 102, 3) := by decide +kernel
theorem dX10_takeBack_19 : decode cX10_takeBack 19 = .ok (.iconst 1, 1) := by decide +kernel
theorem dX10_takeBack_20 : decode cX10_takeBack 20 = .ok (.if_icmp .ne 7, 3) := by decide +kernel
theorem dX10_takeBack_23 : decode cX10_takeBack 23 = .ok (.iconst 1, 1) := by decide +kernel
theorem dX10_takeBack_24 : decode cX10_takeBack 24 = .ok (.goto 4, 3) := by decide +kernel
theorem dX10_takeBack_37 : decode cX10_takeBack 37 = .ok (.aload_n 0, 1) := by decide +kernel
theorem dX10_takeBack_38 : decode cX10_takeBack 38 = .ok (.aload_n 0, 1) := by decide +kernel
theorem dX10_takeBack_39 : decode cX10_takeBack 39 = .ok (.iload_n 1, 1) := by decide +kernel
theorem dX10_takeBack_40 : decode cX10_takeBack 40 = .ok (.iconst 0, 1) := by decide +kernel
theorem dX10_takeBack_41 : decode cX10_takeBack 41 = .ok (.invokevirtual 378, 3) := by decide +kernel
theorem dX10_takeBack_44 : decode cX10_takeBack 44 = .ok (.invokevirtual 452, 3) := by decide +kernel
theorem dX10_takeBack_47 : decode cX10_takeBack 47 = .ok (.goto 4, 3) := by decide +kernel
abbrev mX10_setAsideUnexplained : zM := (yX10_setAsideUnexplained, cX10_setAsideUnexplained, 1, (some .int), [])
theorem okX10_setAsideUnexplained : zMok mX10_setAsideUnexplained 0 := ⟨by decide, by decide, by decide +kernel⟩
theorem dX10_setAsideUnexplained_0 : decode cX10_setAsideUnexplained 0 = .ok (.aload_n 0, 1) := by decide +kernel
theorem dX10_setAsideUnexplained_1 : decode cX10_setAsideUnexplained 1 = .ok (.aload_n 0, 1) := by decide +kernel
theorem dX10_setAsideUnexplained_2 : decode cX10_setAsideUnexplained 2 = .ok (.iconst 1, 1) := by decide +kernel
theorem dX10_setAsideUnexplained_3 : decode cX10_setAsideUnexplained 3 = .ok (.invokevirtual 220, 3) := by decide +kernel
theorem dX10_setAsideUnexplained_6 : decode cX10_setAsideUnexplained 6 = .ok (.invokevirtual 449, 3) := by decide +kernel
theorem dX10_setAsideUnexplained_9 : decode cX10_setAsideUnexplained 9 = .ok (.ifCond .eq 14, 3) := by decide +kernel
theorem dX10_setAsideUnexplained_12 : decode cX10_setAsideUnexplained 12 = .ok (.aload_n 0, 1) := by decide +kernel
theorem dX10_setAsideUnexplained_13 : decode cX10_setAsideUnexplained 13 = .ok (.aload_n 0, 1) := by decide +kernel
theorem dX10_setAsideUnexplained_14 : decode cX10_setAsideUnexplained 14 = .ok (.invokevirtual 459, 3) := by decide +kernel
theorem cw_RX10_459 : zCwV RX10 459 mX10_cleanNow := zall [2213, 2215, 108, 128, 2216] (by decide +kernel) (by decide +kernel)
theorem dX10_setAsideUnexplained_17 : decode cX10_setAsideUnexplained 17 = .ok (.invokevirtual 452, 3) := by decide +kernel
theorem dX10_setAsideUnexplained_20 : decode cX10_setAsideUnexplained 20 = .ok (.goto 4, 3) := by decide +kernel
theorem dX10_setAsideUnexplained_24 : decode cX10_setAsideUnexplained 24 = .ok (.ireturn, 1) := by decide +kernel
abbrev mX10_setWeight : zM := (yX10_setWeight, cX10_setWeight, 3, (some .int), [])
theorem okX10_setWeight : zMok mX10_setWeight 2 := ⟨by decide, by decide, by decide +kernel⟩
theorem dX10_setWeight_0 : decode cX10_setWeight 0 = .ok (.aload_n 0, 1) := by decide +kernel
theorem dX10_setWeight_1 : decode cX10_setWeight 1 = .ok (.aload_n 0, 1) := by decide +kernel
theorem dX10_setWeight_2 : decode cX10_setWeight 2 = .ok (.aload_n 0, 1) := by decide +kernel
theorem dX10_setWeight_3 : decode cX10_setWeight 3 = .ok (.iload_n 1, 1) := by decide +kernel
theorem dX10_setWeight_4 : decode cX10_setWeight 4 = .ok (.invokevirtual 205, 3) := by decide +kernel
theorem dX10_setWeight_7 : decode cX10_setWeight 7 = .ok (.iload_n 2, 1) := by decide +kernel
theorem dX10_setWeight_8 : decode cX10_setWeight 8 = .ok (.i2l, 1) := by decide +kernel
theorem dX10_setWeight_9 : decode cX10_setWeight 9 = .ok (.lconst 1, 1) := by decide +kernel
theorem dX10_setWeight_10 : decode cX10_setWeight 10 = .ok (.ldc2_w 447, 3) := by decide +kernel
theorem lk_RX10_447 : Cond.constantLong RX10 447 (Int64.ofInt 9) ∈ zgood := zmem1 2172 (by decide +kernel) rfl
theorem dX10_setWeight_13 : decode cX10_setWeight 13 = .ok (.invokestatic 74, 3) := by decide +kernel
theorem dX10_setWeight_16 : decode cX10_setWeight 16 = .ok (.invokevirtual 406, 3) := by decide +kernel
theorem dX10_setWeight_19 : decode cX10_setWeight 19 = .ok (.invokevirtual 449, 3) := by decide +kernel
theorem dX10_setWeight_22 : decode cX10_setWeight 22 = .ok (.ifCond .eq 16, 3) := by decide +kernel
theorem dX10_setWeight_38 : decode cX10_setWeight 38 = .ok (.iconst 0, 1) := by decide +kernel
theorem dX10_setWeight_39 : decode cX10_setWeight 39 = .ok (.ireturn, 1) := by decide +kernel
theorem dX10_setWeight_25 : decode cX10_setWeight 25 = .ok (.aload_n 0, 1) := by decide +kernel
theorem dX10_setWeight_26 : decode cX10_setWeight 26 = .ok (.aload_n 0, 1) := by decide +kernel
theorem dX10_setWeight_27 : decode cX10_setWeight 27 = .ok (.iload_n 1, 1) := by decide +kernel
theorem dX10_setWeight_28 : decode cX10_setWeight 28 = .ok (.iload_n 2, 1) := by decide +kernel
theorem dX10_setWeight_29 : decode cX10_setWeight 29 = .ok (.invokevirtual 381, 3) := by decide +kernel
theorem cw_RX10_381 : zCwV RX10 381 mX10_weighNow := zall [1899, 1901, 84, 128, 1902] (by decide +kernel) (by decide +kernel)
theorem dX10_setWeight_32 : decode cX10_setWeight 32 = .ok (.invokevirtual 452, 3) := by decide +kernel
theorem dX10_setWeight_35 : decode cX10_setWeight 35 = .ok (.goto 4, 3) := by decide +kernel
abbrev mX10_transferDevice : zM := (yX10_transferDevice, cX10_transferDevice, 5, (some .int), [])
theorem okX10_transferDevice : zMok mX10_transferDevice 3 := ⟨by decide, by decide, by decide +kernel⟩
theorem dX10_transferDevice_0 : decode cX10_transferDevice 0 = .ok (.aload_n 0, 1) := by decide +kernel
theorem dX10_transferDevice_1 : decode cX10_transferDevice 1 = .ok (.iload_n 1, 1) := by decide +kernel
theorem dX10_transferDevice_2 : decode cX10_transferDevice 2 = .ok (.invokevirtual 400, 3) := by decide +kernel
theorem dX10_transferDevice_5 : decode cX10_transferDevice 5 = .ok (.ifCond .eq 15, 3) := by decide +kernel
theorem dX10_transferDevice_20 : decode cX10_transferDevice 20 = .ok (.iconst 0, 1) := by decide +kernel
theorem dX10_transferDevice_21 : decode cX10_transferDevice 21 = .ok (.istore 4, 2) := by decide +kernel
theorem dX10_transferDevice_23 : decode cX10_transferDevice 23 = .ok (.aload_n 0, 1) := by decide +kernel
theorem dX10_transferDevice_24 : decode cX10_transferDevice 24 = .ok (.aload_n 0, 1) := by decide +kernel
theorem dX10_transferDevice_25 : decode cX10_transferDevice 25 = .ok (.iload 4, 2) := by decide +kernel
theorem dX10_transferDevice_27 : decode cX10_transferDevice 27 = .ok (.iload_n 1, 1) := by decide +kernel
theorem dX10_transferDevice_28 : decode cX10_transferDevice 28 = .ok (.iload_n 2, 1) := by decide +kernel
theorem dX10_transferDevice_29 : decode cX10_transferDevice 29 = .ok (.if_icmp .eq 7, 3) := by decide +kernel
theorem dX10_transferDevice_36 : decode cX10_transferDevice 36 = .ok (.iconst 0, 1) := by decide +kernel
theorem dX10_transferDevice_37 : decode cX10_transferDevice 37 = .ok (.iload 4, 2) := by decide +kernel
theorem dX10_transferDevice_39 : decode cX10_transferDevice 39 = .ok (.ifCond .eq 16, 3) := by decide +kernel
theorem dX10_transferDevice_55 : decode cX10_transferDevice 55 = .ok (.iconst 0, 1) := by decide +kernel
theorem dX10_transferDevice_56 : decode cX10_transferDevice 56 = .ok (.invokevirtual 462, 3) := by decide +kernel
theorem cw_RX10_462 : zCwV RX10 462 mX10_passesAll := zall [2225, 2227, 109, 128, 2228] (by decide +kernel) (by decide +kernel)
theorem dX10_transferDevice_59 : decode cX10_transferDevice 59 = .ok (.invokevirtual 449, 3) := by decide +kernel
theorem dX10_transferDevice_62 : decode cX10_transferDevice 62 = .ok (.ifCond .eq 17, 3) := by decide +kernel
theorem dX10_transferDevice_79 : decode cX10_transferDevice 79 = .ok (.iconst 0, 1) := by decide +kernel
theorem dX10_transferDevice_80 : decode cX10_transferDevice 80 = .ok (.ireturn, 1) := by decide +kernel
theorem dX10_transferDevice_42 : decode cX10_transferDevice 42 = .ok (.aload_n 0, 1) := by decide +kernel
theorem dX10_transferDevice_43 : decode cX10_transferDevice 43 = .ok (.iload_n 1, 1) := by decide +kernel
theorem dX10_transferDevice_44 : decode cX10_transferDevice 44 = .ok (.iload_n 3, 1) := by decide +kernel
theorem dX10_transferDevice_45 : decode cX10_transferDevice 45 = .ok (.invokevirtual 90, 3) := by decide +kernel
theorem dX10_transferDevice_48 : decode cX10_transferDevice 48 = .ok (.ifCond .eq 7, 3) := by decide +kernel
theorem dX10_transferDevice_51 : decode cX10_transferDevice 51 = .ok (.iconst 1, 1) := by decide +kernel
theorem dX10_transferDevice_52 : decode cX10_transferDevice 52 = .ok (.goto 4, 3) := by decide +kernel
theorem dX10_transferDevice_32 : decode cX10_transferDevice 32 = .ok (.iconst 1, 1) := by decide +kernel
theorem dX10_transferDevice_33 : decode cX10_transferDevice 33 = .ok (.goto 4, 3) := by decide +kernel
theorem dX10_transferDevice_8 : decode cX10_transferDevice 8 = .ok (.aload_n 0, 1) := by decide +kernel
theorem dX10_transferDevice_9 : decode cX10_transferDevice 9 = .ok (.iload_n 2, 1) := by decide +kernel
theorem dX10_transferDevice_10 : decode cX10_transferDevice 10 = .ok (.invokevirtual 400, 3) := by decide +kernel
theorem dX10_transferDevice_13 : decode cX10_transferDevice 13 = .ok (.ifCond .eq 7, 3) := by decide +kernel
theorem dX10_transferDevice_16 : decode cX10_transferDevice 16 = .ok (.iconst 1, 1) := by decide +kernel
theorem dX10_transferDevice_17 : decode cX10_transferDevice 17 = .ok (.goto 4, 3) := by decide +kernel
theorem dX10_transferDevice_65 : decode cX10_transferDevice 65 = .ok (.aload_n 0, 1) := by decide +kernel
theorem dX10_transferDevice_66 : decode cX10_transferDevice 66 = .ok (.aload_n 0, 1) := by decide +kernel
theorem dX10_transferDevice_67 : decode cX10_transferDevice 67 = .ok (.iload_n 1, 1) := by decide +kernel
theorem dX10_transferDevice_68 : decode cX10_transferDevice 68 = .ok (.iload_n 2, 1) := by decide +kernel
theorem dX10_transferDevice_69 : decode cX10_transferDevice 69 = .ok (.iload_n 3, 1) := by decide +kernel
theorem dX10_transferDevice_70 : decode cX10_transferDevice 70 = .ok (.invokevirtual 384, 3) := by decide +kernel
theorem cw_RX10_384 : zCwV RX10 384 mX10_lendNow := zall [1903, 1905, 85, 128, 1906] (by decide +kernel) (by decide +kernel)
theorem dX10_transferDevice_73 : decode cX10_transferDevice 73 = .ok (.invokevirtual 452, 3) := by decide +kernel
theorem dX10_transferDevice_76 : decode cX10_transferDevice 76 = .ok (.goto 4, 3) := by decide +kernel
abbrev mX10_adds : zM := (yX10_adds, cX10_adds, 8, (some .int), [])
theorem okX10_adds : zMok mX10_adds 5 := ⟨by decide, by decide, by decide +kernel⟩
theorem dX10_adds_0 : decode cX10_adds 0 = .ok (.iload_n 2, 1) := by decide +kernel
theorem dX10_adds_1 : decode cX10_adds 1 = .ok (.iconst 4, 1) := by decide +kernel
theorem dX10_adds_2 : decode cX10_adds 2 = .ok (.if_icmp .ne 9, 3) := by decide +kernel
theorem dX10_adds_11 : decode cX10_adds 11 = .ok (.iconst 0, 1) := by decide +kernel
theorem dX10_adds_12 : decode cX10_adds 12 = .ok (.istore 6, 2) := by decide +kernel
theorem dX10_adds_14 : decode cX10_adds 14 = .ok (.iload_n 1, 1) := by decide +kernel
theorem dX10_adds_15 : decode cX10_adds 15 = .ok (.i2l, 1) := by decide +kernel
theorem dX10_adds_16 : decode cX10_adds 16 = .ok (.lconst 1, 1) := by decide +kernel
theorem dX10_adds_17 : decode cX10_adds 17 = .ok (.ldc2_w 445, 3) := by decide +kernel
theorem lk_RX10_445 : Cond.constantLong RX10 445 (Int64.ofInt 999) ∈ zgood := zmem1 2171 (by decide +kernel) rfl
theorem dX10_adds_20 : decode cX10_adds 20 = .ok (.invokestatic 74, 3) := by decide +kernel
theorem dX10_adds_23 : decode cX10_adds 23 = .ok (.ifCond .eq 34, 3) := by decide +kernel
theorem dX10_adds_57 : decode cX10_adds 57 = .ok (.iconst 0, 1) := by decide +kernel
theorem dX10_adds_58 : decode cX10_adds 58 = .ok (.istore 7, 2) := by decide +kernel
theorem dX10_adds_60 : decode cX10_adds 60 = .ok (.aload_n 0, 1) := by decide +kernel
theorem dX10_adds_61 : decode cX10_adds 61 = .ok (.aload_n 0, 1) := by decide +kernel
theorem dX10_adds_62 : decode cX10_adds 62 = .ok (.iload 7, 2) := by decide +kernel
theorem dX10_adds_64 : decode cX10_adds 64 = .ok (.aload_n 0, 1) := by decide +kernel
theorem dX10_adds_65 : decode cX10_adds 65 = .ok (.getfield 7, 3) := by decide +kernel
theorem dX10_adds_68 : decode cX10_adds 68 = .ok (.iconst 3, 1) := by decide +kernel
theorem dX10_adds_69 : decode cX10_adds 69 = .ok (.iaload, 1) := by decide +kernel
theorem dX10_adds_70 : decode cX10_adds 70 = .ok (.bipush 40, 2) := by decide +kernel
theorem dX10_adds_72 : decode cX10_adds 72 = .ok (.if_icmp .ge 7, 3) := by decide +kernel
theorem dX10_adds_79 : decode cX10_adds 79 = .ok (.iconst 0, 1) := by decide +kernel
theorem dX10_adds_80 : decode cX10_adds 80 = .ok (.invokevirtual 406, 3) := by decide +kernel
theorem dX10_adds_83 : decode cX10_adds 83 = .ok (.invokevirtual 449, 3) := by decide +kernel
theorem dX10_adds_86 : decode cX10_adds 86 = .ok (.ifCond .eq 19, 3) := by decide +kernel
theorem dX10_adds_105 : decode cX10_adds 105 = .ok (.iconst 0, 1) := by decide +kernel
theorem dX10_adds_106 : decode cX10_adds 106 = .ok (.ireturn, 1) := by decide +kernel
theorem dX10_adds_75 : decode cX10_adds 75 = .ok (.iconst 1, 1) := by decide +kernel
theorem dX10_adds_76 : decode cX10_adds 76 = .ok (.goto 4, 3) := by decide +kernel
theorem dX10_adds_26 : decode cX10_adds 26 = .ok (.iload_n 3, 1) := by decide +kernel
theorem dX10_adds_27 : decode cX10_adds 27 = .ok (.i2l, 1) := by decide +kernel
theorem dX10_adds_28 : decode cX10_adds 28 = .ok (.iload 6, 2) := by decide +kernel
theorem dX10_adds_30 : decode cX10_adds 30 = .ok (.i2l, 1) := by decide +kernel
theorem dX10_adds_31 : decode cX10_adds 31 = .ok (.iload 5, 2) := by decide +kernel
theorem dX10_adds_33 : decode cX10_adds 33 = .ok (.i2l, 1) := by decide +kernel
theorem dX10_adds_34 : decode cX10_adds 34 = .ok (.invokestatic 74, 3) := by decide +kernel
theorem dX10_adds_37 : decode cX10_adds 37 = .ok (.ifCond .eq 20, 3) := by decide +kernel
theorem dX10_adds_40 : decode cX10_adds 40 = .ok (.iload 4, 2) := by decide +kernel
theorem dX10_adds_42 : decode cX10_adds 42 = .ok (.i2l, 1) := by decide +kernel
theorem dX10_adds_43 : decode cX10_adds 43 = .ok (.lconst 1, 1) := by decide +kernel
theorem dX10_adds_44 : decode cX10_adds 44 = .ok (.ldc2_w 447, 3) := by decide +kernel
theorem dX10_adds_47 : decode cX10_adds 47 = .ok (.invokestatic 74, 3) := by decide +kernel
theorem dX10_adds_50 : decode cX10_adds 50 = .ok (.ifCond .eq 7, 3) := by decide +kernel
theorem dX10_adds_53 : decode cX10_adds 53 = .ok (.iconst 1, 1) := by decide +kernel
theorem dX10_adds_54 : decode cX10_adds 54 = .ok (.goto 4, 3) := by decide +kernel
theorem dX10_adds_5 : decode cX10_adds 5 = .ok (.sipush 1450, 3) := by decide +kernel
theorem dX10_adds_8 : decode cX10_adds 8 = .ok (.goto 4, 3) := by decide +kernel
theorem dX10_adds_89 : decode cX10_adds 89 = .ok (.aload_n 0, 1) := by decide +kernel
theorem dX10_adds_90 : decode cX10_adds 90 = .ok (.aload_n 0, 1) := by decide +kernel
theorem dX10_adds_91 : decode cX10_adds 91 = .ok (.iload_n 1, 1) := by decide +kernel
theorem dX10_adds_92 : decode cX10_adds 92 = .ok (.iload_n 2, 1) := by decide +kernel
theorem dX10_adds_93 : decode cX10_adds 93 = .ok (.iload_n 3, 1) := by decide +kernel
theorem dX10_adds_94 : decode cX10_adds 94 = .ok (.iload 4, 2) := by decide +kernel
theorem dX10_adds_96 : decode cX10_adds 96 = .ok (.invokevirtual 372, 3) := by decide +kernel
theorem cw_RX10_372 : zCwV RX10 372 mX10_clueNow := zall [1796, 1798, 59, 128, 1799] (by decide +kernel) (by decide +kernel)
theorem dX10_adds_99 : decode cX10_adds 99 = .ok (.invokevirtual 452, 3) := by decide +kernel
theorem dX10_adds_102 : decode cX10_adds 102 = .ok (.goto 4, 3) := by decide +kernel
abbrev mX10_addDeviceClue : zM := (yX10_addDeviceClue, cX10_addDeviceClue, 4, (some .int), [])
theorem okX10_addDeviceClue : zMok mX10_addDeviceClue 3 := ⟨by decide, by decide, by decide +kernel⟩
theorem dX10_addDeviceClue_0 : decode cX10_addDeviceClue 0 = .ok (.aload_n 0, 1) := by decide +kernel
theorem dX10_addDeviceClue_1 : decode cX10_addDeviceClue 1 = .ok (.iload_n 1, 1) := by decide +kernel
theorem dX10_addDeviceClue_2 : decode cX10_addDeviceClue 2 = .ok (.iconst 0, 1) := by decide +kernel
theorem dX10_addDeviceClue_3 : decode cX10_addDeviceClue 3 = .ok (.iload_n 2, 1) := by decide +kernel
theorem dX10_addDeviceClue_4 : decode cX10_addDeviceClue 4 = .ok (.iload_n 3, 1) := by decide +kernel
theorem dX10_addDeviceClue_5 : decode cX10_addDeviceClue 5 = .ok (.bipush 31, 2) := by decide +kernel
theorem dX10_addDeviceClue_7 : decode cX10_addDeviceClue 7 = .ok (.invokevirtual 455, 3) := by decide +kernel
theorem cw_RX10_455 : zCwV RX10 455 mX10_adds := zall [2167, 2169, 105, 128, 2170] (by decide +kernel) (by decide +kernel)
theorem dX10_addDeviceClue_10 : decode cX10_addDeviceClue 10 = .ok (.ireturn, 1) := by decide +kernel
abbrev mX10_addTypefaceClue : zM := (yX10_addTypefaceClue, cX10_addTypefaceClue, 4, (some .int), [])
theorem okX10_addTypefaceClue : zMok mX10_addTypefaceClue 3 := ⟨by decide, by decide, by decide +kernel⟩
theorem dX10_addTypefaceClue_0 : decode cX10_addTypefaceClue 0 = .ok (.aload_n 0, 1) := by decide +kernel
theorem dX10_addTypefaceClue_1 : decode cX10_addTypefaceClue 1 = .ok (.iload_n 1, 1) := by decide +kernel
theorem dX10_addTypefaceClue_2 : decode cX10_addTypefaceClue 2 = .ok (.iconst 1, 1) := by decide +kernel
theorem dX10_addTypefaceClue_3 : decode cX10_addTypefaceClue 3 = .ok (.iload_n 2, 1) := by decide +kernel
theorem dX10_addTypefaceClue_4 : decode cX10_addTypefaceClue 4 = .ok (.iload_n 3, 1) := by decide +kernel
theorem dX10_addTypefaceClue_5 : decode cX10_addTypefaceClue 5 = .ok (.bipush 15, 2) := by decide +kernel
theorem dX10_addTypefaceClue_7 : decode cX10_addTypefaceClue 7 = .ok (.invokevirtual 455, 3) := by decide +kernel
theorem dX10_addTypefaceClue_10 : decode cX10_addTypefaceClue 10 = .ok (.ireturn, 1) := by decide +kernel
abbrev mX10_addWatermarkClue : zM := (yX10_addWatermarkClue, cX10_addWatermarkClue, 4, (some .int), [])
theorem okX10_addWatermarkClue : zMok mX10_addWatermarkClue 3 := ⟨by decide, by decide, by decide +kernel⟩
theorem dX10_addWatermarkClue_0 : decode cX10_addWatermarkClue 0 = .ok (.aload_n 0, 1) := by decide +kernel
theorem dX10_addWatermarkClue_1 : decode cX10_addWatermarkClue 1 = .ok (.iload_n 1, 1) := by decide +kernel
theorem dX10_addWatermarkClue_2 : decode cX10_addWatermarkClue 2 = .ok (.iconst 2, 1) := by decide +kernel
theorem dX10_addWatermarkClue_3 : decode cX10_addWatermarkClue 3 = .ok (.iload_n 2, 1) := by decide +kernel
theorem dX10_addWatermarkClue_4 : decode cX10_addWatermarkClue 4 = .ok (.iload_n 3, 1) := by decide +kernel
theorem dX10_addWatermarkClue_5 : decode cX10_addWatermarkClue 5 = .ok (.aload_n 0, 1) := by decide +kernel
theorem dX10_addWatermarkClue_6 : decode cX10_addWatermarkClue 6 = .ok (.getfield 7, 3) := by decide +kernel
theorem dX10_addWatermarkClue_9 : decode cX10_addWatermarkClue 9 = .ok (.iconst 1, 1) := by decide +kernel
theorem dX10_addWatermarkClue_10 : decode cX10_addWatermarkClue 10 = .ok (.iaload, 1) := by decide +kernel
theorem dX10_addWatermarkClue_11 : decode cX10_addWatermarkClue 11 = .ok (.iconst 1, 1) := by decide +kernel
theorem dX10_addWatermarkClue_12 : decode cX10_addWatermarkClue 12 = .ok (.isub, 1) := by decide +kernel
theorem dX10_addWatermarkClue_13 : decode cX10_addWatermarkClue 13 = .ok (.invokevirtual 455, 3) := by decide +kernel
theorem dX10_addWatermarkClue_16 : decode cX10_addWatermarkClue 16 = .ok (.ireturn, 1) := by decide +kernel
abbrev mX10_addCityClue : zM := (yX10_addCityClue, cX10_addCityClue, 4, (some .int), [])
theorem okX10_addCityClue : zMok mX10_addCityClue 3 := ⟨by decide, by decide, by decide +kernel⟩
theorem dX10_addCityClue_0 : decode cX10_addCityClue 0 = .ok (.aload_n 0, 1) := by decide +kernel
theorem dX10_addCityClue_1 : decode cX10_addCityClue 1 = .ok (.iload_n 1, 1) := by decide +kernel
theorem dX10_addCityClue_2 : decode cX10_addCityClue 2 = .ok (.iconst 3, 1) := by decide +kernel
theorem dX10_addCityClue_3 : decode cX10_addCityClue 3 = .ok (.iload_n 2, 1) := by decide +kernel
theorem dX10_addCityClue_4 : decode cX10_addCityClue 4 = .ok (.iload_n 3, 1) := by decide +kernel
theorem dX10_addCityClue_5 : decode cX10_addCityClue 5 = .ok (.bipush 9, 2) := by decide +kernel
theorem dX10_addCityClue_7 : decode cX10_addCityClue 7 = .ok (.invokevirtual 455, 3) := by decide +kernel
theorem dX10_addCityClue_10 : decode cX10_addCityClue 10 = .ok (.ireturn, 1) := by decide +kernel
abbrev mX10_addDateClue : zM := (yX10_addDateClue, cX10_addDateClue, 4, (some .int), [])
theorem okX10_addDateClue : zMok mX10_addDateClue 3 := ⟨by decide, by decide, by decide +kernel⟩
theorem dX10_addDateClue_0 : decode cX10_addDateClue 0 = .ok (.aload_n 0, 1) := by decide +kernel
theorem dX10_addDateClue_1 : decode cX10_addDateClue 1 = .ok (.iload_n 1, 1) := by decide +kernel
theorem dX10_addDateClue_2 : decode cX10_addDateClue 2 = .ok (.iconst 4, 1) := by decide +kernel
theorem dX10_addDateClue_3 : decode cX10_addDateClue 3 = .ok (.iload_n 2, 1) := by decide +kernel
theorem dX10_addDateClue_4 : decode cX10_addDateClue 4 = .ok (.iload_n 3, 1) := by decide +kernel
theorem dX10_addDateClue_5 : decode cX10_addDateClue 5 = .ok (.sipush 1999, 3) := by decide +kernel
theorem dX10_addDateClue_8 : decode cX10_addDateClue 8 = .ok (.invokevirtual 455, 3) := by decide +kernel
theorem dX10_addDateClue_11 : decode cX10_addDateClue 11 = .ok (.ireturn, 1) := by decide +kernel
abbrev mX10_undo : zM := (yX10_undo, cX10_undo, 1, (some .int), [])
theorem okX10_undo : zMok mX10_undo 0 := ⟨by decide, by decide, by decide +kernel⟩
theorem dX10_undo_0 : decode cX10_undo 0 = .ok (.aload_n 0, 1) := by decide +kernel
theorem dX10_undo_1 : decode cX10_undo 1 = .ok (.aload_n 0, 1) := by decide +kernel
theorem dX10_undo_2 : decode cX10_undo 2 = .ok (.getfield 348, 3) := by decide +kernel
theorem dX10_undo_5 : decode cX10_undo 5 = .ok (.ifCond .le 7, 3) := by decide +kernel
theorem dX10_undo_12 : decode cX10_undo 12 = .ok (.iconst 0, 1) := by decide +kernel
theorem dX10_undo_13 : decode cX10_undo 13 = .ok (.invokevirtual 220, 3) := by decide +kernel
theorem dX10_undo_16 : decode cX10_undo 16 = .ok (.ifCond .ne 5, 3) := by decide +kernel
theorem dX10_undo_19 : decode cX10_undo 19 = .ok (.iconst 0, 1) := by decide +kernel
theorem dX10_undo_20 : decode cX10_undo 20 = .ok (.ireturn, 1) := by decide +kernel
theorem dX10_undo_8 : decode cX10_undo 8 = .ok (.iconst 1, 1) := by decide +kernel
theorem dX10_undo_9 : decode cX10_undo 9 = .ok (.goto 4, 3) := by decide +kernel
theorem dX10_undo_21 : decode cX10_undo 21 = .ok (.aload_n 0, 1) := by decide +kernel
theorem dX10_undo_22 : decode cX10_undo 22 = .ok (.dup, 1) := by decide +kernel
theorem dX10_undo_23 : decode cX10_undo 23 = .ok (.getfield 348, 3) := by decide +kernel
theorem dX10_undo_26 : decode cX10_undo 26 = .ok (.iconst 1, 1) := by decide +kernel
theorem dX10_undo_27 : decode cX10_undo 27 = .ok (.isub, 1) := by decide +kernel
theorem dX10_undo_28 : decode cX10_undo 28 = .ok (.putfield 348, 3) := by decide +kernel
theorem dX10_undo_31 : decode cX10_undo 31 = .ok (.aload_n 0, 1) := by decide +kernel
theorem dX10_undo_32 : decode cX10_undo 32 = .ok (.getfield 22, 3) := by decide +kernel
theorem dX10_undo_35 : decode cX10_undo 35 = .ok (.sipush 380, 3) := by decide +kernel
theorem dX10_undo_38 : decode cX10_undo 38 = .ok (.aload_n 0, 1) := by decide +kernel
theorem dX10_undo_39 : decode cX10_undo 39 = .ok (.getfield 348, 3) := by decide +kernel
theorem dX10_undo_42 : decode cX10_undo 42 = .ok (.imul, 1) := by decide +kernel
theorem dX10_undo_43 : decode cX10_undo 43 = .ok (.aload_n 0, 1) := by decide +kernel
theorem dX10_undo_44 : decode cX10_undo 44 = .ok (.getfield 7, 3) := by decide +kernel
theorem dX10_undo_47 : decode cX10_undo 47 = .ok (.iconst 0, 1) := by decide +kernel
theorem dX10_undo_48 : decode cX10_undo 48 = .ok (.invokestatic 70, 3) := by decide +kernel
theorem dX10_undo_51 : decode cX10_undo 51 = .ok (.aload_n 0, 1) := by decide +kernel
theorem dX10_undo_52 : decode cX10_undo 52 = .ok (.getfield 348, 3) := by decide +kernel
theorem dX10_undo_55 : decode cX10_undo 55 = .ok (.ireturn, 1) := by decide +kernel
abbrev mX10_save : zM := (yX10_save, cX10_save, 1, (some .int), [])
theorem okX10_save : zMok mX10_save 0 := ⟨by decide, by decide, by decide +kernel⟩
theorem dX10_save_0 : decode cX10_save 0 = .ok (.aload_n 0, 1) := by decide +kernel
theorem dX10_save_1 : decode cX10_save 1 = .ok (.iconst 0, 1) := by decide +kernel
theorem dX10_save_2 : decode cX10_save 2 = .ok (.putfield 67, 3) := by decide +kernel
theorem dX10_save_5 : decode cX10_save 5 = .ok (.aload_n 0, 1) := by decide +kernel
theorem dX10_save_6 : decode cX10_save 6 = .ok (.getfield 7, 3) := by decide +kernel
theorem dX10_save_9 : decode cX10_save 9 = .ok (.iconst 0, 1) := by decide +kernel
theorem dX10_save_10 : decode cX10_save 10 = .ok (.aload_n 0, 1) := by decide +kernel
theorem dX10_save_11 : decode cX10_save 11 = .ok (.getfield 13, 3) := by decide +kernel
theorem fl_RX10_13 : zFl RX10 13 10 1 := ⟨RX10, TX10, 28, rfl, by decide, zmem1 1654 (by decide +kernel) rfl, rfl⟩
theorem dX10_save_14 : decode cX10_save 14 = .ok (.iconst 0, 1) := by decide +kernel
theorem dX10_save_15 : decode cX10_save 15 = .ok (.invokestatic 70, 3) := by decide +kernel
theorem dX10_save_18 : decode cX10_save 18 = .ok (.aload_n 0, 1) := by decide +kernel
theorem dX10_save_19 : decode cX10_save 19 = .ok (.iconst 1, 1) := by decide +kernel
theorem dX10_save_20 : decode cX10_save 20 = .ok (.putfield 466, 3) := by decide +kernel
theorem fl_RX10_466 : zFl RX10 466 10 7 := ⟨RX10, TX10, 28, rfl, by decide, zmem1 1660 (by decide +kernel) rfl, rfl⟩
theorem fp_10_7 : zFi 10 7 "Z" := ⟨RX10, TX10, 28, rfl, rfl, rfl⟩
theorem dX10_save_23 : decode cX10_save 23 = .ok (.aload_n 0, 1) := by decide +kernel
theorem dX10_save_24 : decode cX10_save 24 = .ok (.getfield 7, 3) := by decide +kernel
theorem dX10_save_27 : decode cX10_save 27 = .ok (.iconst 3, 1) := by decide +kernel
theorem dX10_save_28 : decode cX10_save 28 = .ok (.iaload, 1) := by decide +kernel
theorem dX10_save_29 : decode cX10_save 29 = .ok (.ireturn, 1) := by decide +kernel
abbrev mX10_restore : zM := (yX10_restore, cX10_restore, 1, (some .int), [])
theorem okX10_restore : zMok mX10_restore 0 := ⟨by decide, by decide, by decide +kernel⟩
theorem dX10_restore_0 : decode cX10_restore 0 = .ok (.aload_n 0, 1) := by decide +kernel
theorem dX10_restore_1 : decode cX10_restore 1 = .ok (.aload_n 0, 1) := by decide +kernel
theorem dX10_restore_2 : decode cX10_restore 2 = .ok (.getfield 466, 3) := by decide +kernel
theorem dX10_restore_5 : decode cX10_restore 5 = .ok (.invokevirtual 220, 3) := by decide +kernel
theorem dX10_restore_8 : decode cX10_restore 8 = .ok (.ifCond .ne 5, 3) := by decide +kernel
theorem dX10_restore_11 : decode cX10_restore 11 = .ok (.iconst 0, 1) := by decide +kernel
theorem dX10_restore_12 : decode cX10_restore 12 = .ok (.ireturn, 1) := by decide +kernel
theorem dX10_restore_13 : decode cX10_restore 13 = .ok (.aload_n 0, 1) := by decide +kernel
theorem dX10_restore_14 : decode cX10_restore 14 = .ok (.getfield 13, 3) := by decide +kernel
theorem dX10_restore_17 : decode cX10_restore 17 = .ok (.iconst 0, 1) := by decide +kernel
theorem dX10_restore_18 : decode cX10_restore 18 = .ok (.aload_n 0, 1) := by decide +kernel
theorem dX10_restore_19 : decode cX10_restore 19 = .ok (.getfield 7, 3) := by decide +kernel
theorem dX10_restore_22 : decode cX10_restore 22 = .ok (.iconst 0, 1) := by decide +kernel
theorem dX10_restore_23 : decode cX10_restore 23 = .ok (.invokestatic 70, 3) := by decide +kernel
theorem dX10_restore_26 : decode cX10_restore 26 = .ok (.aload_n 0, 1) := by decide +kernel
theorem dX10_restore_27 : decode cX10_restore 27 = .ok (.iconst 0, 1) := by decide +kernel
theorem dX10_restore_28 : decode cX10_restore 28 = .ok (.putfield 348, 3) := by decide +kernel
theorem dX10_restore_31 : decode cX10_restore 31 = .ok (.aload_n 0, 1) := by decide +kernel
theorem dX10_restore_32 : decode cX10_restore 32 = .ok (.getfield 7, 3) := by decide +kernel
theorem dX10_restore_35 : decode cX10_restore 35 = .ok (.iconst 3, 1) := by decide +kernel
theorem dX10_restore_36 : decode cX10_restore 36 = .ok (.iaload, 1) := by decide +kernel
theorem dX10_restore_37 : decode cX10_restore 37 = .ok (.ireturn, 1) := by decide +kernel

set_option maxRecDepth 20000 in
set_option maxHeartbeats 2000000 in
theorem sX10_read_t1 {l : Launch} {w : zW} (hfl : l.stackTraces = false) {σ : zS} {D : zBk} {x : Int} (hz : zOK σ) (hW : WF D) (hR : Rel D (σ.1 262)) (hx : zr x) (hw : ¬ (1 ≤ x ∧ x ≤ 40)) : Sp l w mX10_read 5 0 [zf 10 261, zi x] σ (zqv (some (zi 0)) (fun τ => zOK τ ∧ QP D σ τ ∧ τ.1 261 6 = 1)) := by
  obtain ⟨Q, hQ⟩ : ∃ Q : zQ, Q = (zqv (some (zi 0)) (fun τ => zOK τ ∧ QP D σ τ ∧ τ.1 261 6 = 1)) := ⟨_, rfl⟩
  rw [← hQ]
  refine zx_enter hfl (by decide) rfl 0 rfl ?_
  show zX l w mX10_read (zMQ w 5 0 Q) 0 [zf 10 261, zi x] [] 0 σ
  have hP : 0 ≤ D 1 0 ∧ D 1 0 ≤ 8 := hW.1.1
  have hM : 0 ≤ D 1 7 ∧ D 1 7 ≤ 8 := hW.1.2.1
  have hE : 0 ≤ D 1 10 ∧ D 1 10 ≤ 12 := hW.1.2.2.1
  have hK : 0 ≤ D 12 0 ∧ D 12 0 ≤ 40 := hW.1.2.2.2
  have r0 : σ.1 262 0 = D 1 0 := hR.1.1
  have r1 : σ.1 262 1 = D 1 7 := hR.1.2.1
  have r2 : σ.1 262 2 = D 1 10 := hR.1.2.2.1
  have r3 : σ.1 262 3 = D 12 0 := hR.1.2.2.2
  refine zx_aloadN dX10_read_0 rfl rfl ?_
  refine zx_aloadN dX10_read_1 rfl rfl ?_
  refine zx_iloadN dX10_read_2 rfl rfl ?_
  refine zx_i2l (by first | exact hz _ _ | assumption | exact zr_b _ | exact zcmp_r _ _ | (unfold zr at *; omega)) dX10_read_3 ?_
  refine zx_lconst (a := 1) dX10_read_4 rfl ?_
  refine zx_ldc2 (a := 40) dX10_read_5 lk_RX10_428 ?_
  refine zy_cs [zl x, zl 1, zl 40] (sX10_in  hfl hz (by first | exact hz _ _ | assumption | exact zr_b _ | exact zcmp_r _ _ | (unfold zr at *; omega)) (by first | exact hz _ _ | assumption | exact zr_b _ | exact zcmp_r _ _ | (unfold zr at *; omega)) (by first | exact hz _ _ | assumption | exact zr_b _ | exact zcmp_r _ _ | (unfold zr at *; omega))) dX10_read_8 cw_RX10_74 okX10_in rfl (Nat.le_of_ble_eq_true rfl) ⟨Nat.le_of_ble_eq_true rfl, Nat.le_of_ble_eq_true rfl, Nat.le_of_ble_eq_true rfl, Nat.le_of_ble_eq_true rfl⟩ ?_
  refine zy_cv [zi (zb (1 ≤ x ∧ x ≤ 40))] (sX10_passes (A := (1 ≤ x ∧ x ≤ 40)) hfl hz ) dX10_read_11 (by decide) rfl cw_RX10_220 okX10_passes rfl (Nat.le_of_ble_eq_true rfl) ⟨Nat.le_of_ble_eq_true rfl, Nat.le_of_ble_eq_true rfl, Nat.le_of_ble_eq_true rfl, Nat.le_of_ble_eq_true rfl⟩ ?_
  refine zy_cv [zi (zb (1 ≤ x ∧ x ≤ 40))] (sX10_tried_f (A := (1 ≤ x ∧ x ≤ 40)) hfl (zOK_put hz (zr_b _)) (by first | assumption | omega)) dX10_read_14 (by decide) rfl cw_RX10_449 okX10_tried rfl (Nat.le_of_ble_eq_true rfl) ⟨Nat.le_of_ble_eq_true rfl, Nat.le_of_ble_eq_true rfl, Nat.le_of_ble_eq_true rfl, Nat.le_of_ble_eq_true rfl⟩ ?_
  refine zx_if_eq (tgt := 32) (by first | exact hz _ _ | assumption | exact zr_b _ | exact zcmp_r _ _ | (unfold zr at *; omega)) dX10_read_17 (by decide) (fun h17 => ?_) (fun h17 => ?_)
  · have h17 := zb_0.mp h17
    refine zx_iconst dX10_read_32 ?_
    refine zx_iret rfl rfl dX10_read_33 ?_
    rw [hQ]
    refine ⟨congrArg (fun z : Int => (Sum.inl (some (zi z)) : Option zV ⊕ String)) ?_, ?_⟩
    · rfl
    exact ⟨(zOK_put hz (zr_b _)), QP_th hR, (zput_s _ _ _ _).trans (zb_t hw)⟩
  · have h17 := zb_n.mp h17
    exact absurd (by assumption) hw
set_option maxRecDepth 20000 in
set_option maxHeartbeats 2000000 in
theorem sX10_read {l : Launch} {w : zW} (hfl : l.stackTraces = false) {σ : zS} {D : zBk} {x : Int} (hz : zOK σ) (hW : WF D) (hR : Rel D (σ.1 262)) (hx : zr x) (hm5 : 0 ≤ σ.1 261 5 ∧ σ.1 261 5 ≤ 8) (hw : 1 ≤ x ∧ x ≤ 40) : Sp l w mX10_read 5 0 [zf 10 261, zi x] σ (zqv (some (zi (min x (U D (D 12 0).toNat)))) (fun τ => zOK τ ∧ mfr σ τ mA mF ∧ Rel (rdB D x) (τ.1 262) ∧ MPu σ τ (σ.1 262) ∧ τ.1 261 6 = 0)) := by
  obtain ⟨Q, hQ⟩ : ∃ Q : zQ, Q = (zqv (some (zi (min x (U D (D 12 0).toNat)))) (fun τ => zOK τ ∧ mfr σ τ mA mF ∧ Rel (rdB D x) (τ.1 262) ∧ MPu σ τ (σ.1 262) ∧ τ.1 261 6 = 0)) := ⟨_, rfl⟩
  rw [← hQ]
  refine zx_enter hfl (by decide) rfl 0 rfl ?_
  show zX l w mX10_read (zMQ w 5 0 Q) 0 [zf 10 261, zi x] [] 0 σ
  have hP : 0 ≤ D 1 0 ∧ D 1 0 ≤ 8 := hW.1.1
  have hM : 0 ≤ D 1 7 ∧ D 1 7 ≤ 8 := hW.1.2.1
  have hE : 0 ≤ D 1 10 ∧ D 1 10 ≤ 12 := hW.1.2.2.1
  have hK : 0 ≤ D 12 0 ∧ D 12 0 ≤ 40 := hW.1.2.2.2
  have r0 : σ.1 262 0 = D 1 0 := hR.1.1
  have r1 : σ.1 262 1 = D 1 7 := hR.1.2.1
  have r2 : σ.1 262 2 = D 1 10 := hR.1.2.2.1
  have r3 : σ.1 262 3 = D 12 0 := hR.1.2.2.2
  refine zx_aloadN dX10_read_0 rfl rfl ?_
  refine zx_aloadN dX10_read_1 rfl rfl ?_
  refine zx_iloadN dX10_read_2 rfl rfl ?_
  refine zx_i2l (by first | exact hz _ _ | assumption | exact zr_b _ | exact zcmp_r _ _ | (unfold zr at *; omega)) dX10_read_3 ?_
  refine zx_lconst (a := 1) dX10_read_4 rfl ?_
  refine zx_ldc2 (a := 40) dX10_read_5 lk_RX10_428 ?_
  refine zy_cs [zl x, zl 1, zl 40] (sX10_in  hfl hz (by first | exact hz _ _ | assumption | exact zr_b _ | exact zcmp_r _ _ | (unfold zr at *; omega)) (by first | exact hz _ _ | assumption | exact zr_b _ | exact zcmp_r _ _ | (unfold zr at *; omega)) (by first | exact hz _ _ | assumption | exact zr_b _ | exact zcmp_r _ _ | (unfold zr at *; omega))) dX10_read_8 cw_RX10_74 okX10_in rfl (Nat.le_of_ble_eq_true rfl) ⟨Nat.le_of_ble_eq_true rfl, Nat.le_of_ble_eq_true rfl, Nat.le_of_ble_eq_true rfl, Nat.le_of_ble_eq_true rfl⟩ ?_
  refine zy_cv [zi (zb (1 ≤ x ∧ x ≤ 40))] (sX10_passes (A := (1 ≤ x ∧ x ≤ 40)) hfl hz ) dX10_read_11 (by decide) rfl cw_RX10_220 okX10_passes rfl (Nat.le_of_ble_eq_true rfl) ⟨Nat.le_of_ble_eq_true rfl, Nat.le_of_ble_eq_true rfl, Nat.le_of_ble_eq_true rfl, Nat.le_of_ble_eq_true rfl⟩ ?_
  refine zy_cvR [zi (zb (1 ≤ x ∧ x ≤ 40))] (sX10_tried (A := (1 ≤ x ∧ x ≤ 40)) hfl (zOK_put hz (zr_b _)) (by first | assumption | omega)) dX10_read_14 (by decide) rfl cw_RX10_449 okX10_tried rfl (Nat.le_of_ble_eq_true rfl) ⟨Nat.le_of_ble_eq_true rfl, Nat.le_of_ble_eq_true rfl, Nat.le_of_ble_eq_true rfl, Nat.le_of_ble_eq_true rfl⟩ (fun τ14 hr14 => ?_)
  have hz14 : zOK τ14 := hr14.1
  have hRt : Rel D (τ14.1 262) := mfr_R (mfr_cpo hr14.2 (by decide)) (by decide) (Rel_put (by decide) hR)
  have h5t : 0 ≤ τ14.1 261 5 ∧ τ14.1 261 5 ≤ 8 := by rw [hr14.2.1 261 (by decide), zput_i _ _ _ _ _ (by decide)]; exact hm5
  refine zx_if_eq (tgt := 32) (by first | exact hz14 _ _ | assumption | exact zr_b _ | exact zcmp_r _ _ | (unfold zr at *; omega)) dX10_read_17 (by decide) (fun h17 => ?_) (fun h17 => ?_)
  · have h17 := zb_0.mp h17
    exact absurd hw (by assumption)
  · have h17 := zb_n.mp h17
    refine zx_aloadN dX10_read_20 rfl rfl ?_
    refine zx_aloadN dX10_read_21 rfl rfl ?_
    refine zx_iloadN dX10_read_22 rfl rfl ?_
    refine zy_cvR [zi x] (sX10_readNow (D := D) hfl hz14 (by first | assumption | omega) hRt (by omega)) dX10_read_23 (by decide) rfl cw_RX10_375 okX10_readNow rfl (Nat.le_of_ble_eq_true rfl) ⟨Nat.le_of_ble_eq_true rfl, Nat.le_of_ble_eq_true rfl, Nat.le_of_ble_eq_true rfl, Nat.le_of_ble_eq_true rfl⟩ (fun τ23 hr23 => ?_)
    have hz23 : zOK τ23 := hr23.1
    have h5n : 0 ≤ τ23.1 261 5 ∧ τ23.1 261 5 ≤ 8 := by rw [hr23.2.1.2.1 5 (by omega)]; exact h5t
    refine zy_cvR [zi (zb True)] (sX10_done (A := True) hfl hz23 h5n) dX10_read_26 (by decide) rfl cw_RX10_452 okX10_done rfl (Nat.le_of_ble_eq_true rfl) ⟨Nat.le_of_ble_eq_true rfl, Nat.le_of_ble_eq_true rfl, Nat.le_of_ble_eq_true rfl, Nat.le_of_ble_eq_true rfl⟩ (fun τ26 hr26 => ?_)
    have hz26 : zOK τ26 := hr26.1
    refine zx_goto (tgt := 33) dX10_read_29 (by decide) ?_
    refine zx_iret rfl rfl dX10_read_33 ?_
    rw [hQ]
    refine ⟨congrArg (fun z : Int => (Sum.inl (some (zi z)) : Option zV ⊕ String)) ?_, ?_⟩
    · exact hr23.2.2.2
    have ht : mfr (zput σ 261 6 (zb (¬ (1 ≤ x ∧ x ≤ 40)))) τ14 (fun k => k = 264) (fun _ => False) := mfr_cpo hr14.2 (by decide)
    have mB : mfr σ (zput σ 261 6 (zb (¬ (1 ≤ x ∧ x ≤ 40)))) (fun _ => False) (fun i => i = 6) := mfr_mo (mfr_put261 (mfr_rf σ (fun _ => False) (fun _ => False))) (fun k q => q) (fun i q => by rcases q with q | q; exact absurd q id; exact q)
    have m1 : mfr σ τ14 mA mF := mfr_tr mB ht (fun k q => by rcases q with q | q; exact absurd q id; exact Or.inr (Or.inl q)) (fun i q => by rcases q with q | q; exact Or.inr (Or.inl q); exact absurd q id)
    have m2 : mfr σ τ23 mA mF := mfr_tr m1 hr23.2.1 (fun k q => by unfold mA at *; omega) (fun i q => by unfold mF at *; omega)
    have m3 : mfr σ τ26 mA mF := mfr_tr m2 hr26.2.1 (fun k q => by unfold mA at *; omega) (fun i q => by unfold mF at *; omega)
    have h264 : ∀ j, j < 380 → τ23.1 264 j = σ.1 262 j := fun j hj => by
      rw [hr23.2.1.1 264 (by omega) (by omega) j]
      have := hr14.2.2.2.1 j hj
      rw [Nat.zero_add] at this
      rw [this]; exact zput_k _ _ _ _ _ (by omega)
    have h266 : ∀ j, τ23.1 266 j = σ.1 266 j := fun j => by
      rw [hr23.2.1.1 266 (by omega) (by omega) j, ht.1 266 (by omega) (by omega) j]; exact zput_k _ _ _ _ _ (by omega)
    have h65 : τ23.1 261 5 = σ.1 261 5 := by
      rw [hr23.2.1.2.1 5 (by omega), ht.2.1 5 (fun q => q)]; exact zput_i _ _ _ _ _ (by omega)
    have h66 : τ26.1 261 6 = 0 := by
      rw [hr26.2.1.2.1 6 (by omega), hr23.2.1.2.1 6 (by omega), ht.2.1 6 (fun q => q)]; exact (zput_s _ _ _ _).trans (zb_f (fun q => q hw))
    exact ⟨hz26, m3, mfr_R hr26.2.1 (by omega) hr23.2.2.1, MPu_to hr26.2.2 h65 h266 h264, h66⟩
set_option maxRecDepth 20000 in
set_option maxHeartbeats 2000000 in
theorem sX10_setAside_t1 {l : Launch} {w : zW} (hfl : l.stackTraces = false) {σ : zS} {D : zBk} {x : Int} (hz : zOK σ) (hW : WF D) (hR : Rel D (σ.1 262)) (hx : zr x) (hw : ¬ (0 ≤ x ∧ x < D 12 0)) : Sp l w mX10_setAside 13 0 [zf 10 261, zi x] σ (zqv (some (zi 0)) (fun τ => zOK τ ∧ QP D σ τ ∧ τ.1 261 6 = 1)) := by
  obtain ⟨Q, hQ⟩ : ∃ Q : zQ, Q = (zqv (some (zi 0)) (fun τ => zOK τ ∧ QP D σ τ ∧ τ.1 261 6 = 1)) := ⟨_, rfl⟩
  rw [← hQ]
  refine zx_enter hfl (by decide) rfl 1 rfl ?_
  show zX l w mX10_setAside (zMQ w 13 0 Q) 0 [zf 10 261, zi x, zu] [] 0 σ
  have hP : 0 ≤ D 1 0 ∧ D 1 0 ≤ 8 := hW.1.1
  have hM : 0 ≤ D 1 7 ∧ D 1 7 ≤ 8 := hW.1.2.1
  have hE : 0 ≤ D 1 10 ∧ D 1 10 ≤ 12 := hW.1.2.2.1
  have hK : 0 ≤ D 12 0 ∧ D 12 0 ≤ 40 := hW.1.2.2.2
  have r0 : σ.1 262 0 = D 1 0 := hR.1.1
  have r1 : σ.1 262 1 = D 1 7 := hR.1.2.1
  have r2 : σ.1 262 2 = D 1 10 := hR.1.2.2.1
  have r3 : σ.1 262 3 = D 12 0 := hR.1.2.2.2
  have ex : 0 ≤ x → x = ((x.toNat : Nat) : Int) := fun q => by omega
  have hbx : 0 ≤ x ∧ x < D 12 0 → (D 18 x.toNat = 0 ∨ D 18 x.toNat = 1) := fun q => (hW.2.2.2.2.1 x.toNat (by omega)).2.2.2.2
  refine zx_aloadN dX10_setAside_0 rfl rfl ?_
  refine zx_iloadN dX10_setAside_1 rfl rfl ?_
  refine zy_cv [zi x] (sX10_isClue (D := D) hfl hz (by first | assumption | omega) (by first | assumption | (refine Rel_put (by decide) ?_; assumption) | (refine Rel_put (by decide) (Rel_put (by decide) ?_); assumption) | (refine Rel_put (by decide) (Rel_put (by decide) (Rel_put (by decide) ?_)); assumption)) (by first | exact hz _ _ | assumption | exact zr_b _ | exact zcmp_r _ _ | (unfold zr at *; omega))) dX10_setAside_2 (by decide) rfl cw_RX10_205 okX10_isClue rfl (Nat.le_of_ble_eq_true rfl) ⟨Nat.le_of_ble_eq_true rfl, Nat.le_of_ble_eq_true rfl, Nat.le_of_ble_eq_true rfl, Nat.le_of_ble_eq_true rfl⟩ ?_
  refine zy_istoreN [zf 10 261, zi x, zi (zb (0 ≤ x ∧ x < D 12 0))] dX10_setAside_5 rfl (Nat.le_of_ble_eq_true rfl) (Nat.le_of_ble_eq_true rfl) rfl rfl ?_
  refine zx_aloadN dX10_setAside_6 rfl rfl ?_
  refine zx_aloadN dX10_setAside_7 rfl rfl ?_
  refine zx_iloadN dX10_setAside_8 rfl rfl ?_
  refine zx_iloadN dX10_setAside_9 rfl rfl ?_
  refine zx_if_eq (tgt := 26) (by first | exact hz _ _ | assumption | exact zr_b _ | exact zcmp_r _ _ | (unfold zr at *; omega)) dX10_setAside_10 (by decide) (fun h10 => ?_) (fun h10 => ?_)
  · have h10 := zb_0.mp h10
    refine zx_iconst dX10_setAside_26 ?_
    refine zy_top (b := zb ((0 ≤ x ∧ x < D 12 0) ∧ D 18 x.toNat = 0)) (by first | exact (zb_t (by exact ⟨by assumption, by assumption⟩)).symm | exact (zb_f (fun q => absurd q.1 (by assumption))).symm | exact (zb_f (fun q => absurd q.2 (by assumption))).symm) ?_
    refine zy_cv [zi (zb (0 ≤ x ∧ x < D 12 0)), zi (zb ((0 ≤ x ∧ x < D 12 0) ∧ D 18 x.toNat = 0))] (sX10_passesBoth (A := (0 ≤ x ∧ x < D 12 0)) (B := ((0 ≤ x ∧ x < D 12 0) ∧ D 18 x.toNat = 0)) hfl hz ) dX10_setAside_27 (by decide) rfl cw_RX10_406 okX10_passesBoth rfl (Nat.le_of_ble_eq_true rfl) ⟨Nat.le_of_ble_eq_true rfl, Nat.le_of_ble_eq_true rfl, Nat.le_of_ble_eq_true rfl, Nat.le_of_ble_eq_true rfl⟩ ?_
    refine zy_cv [zi (zb ((0 ≤ x ∧ x < D 12 0) ∧ ((0 ≤ x ∧ x < D 12 0) ∧ D 18 x.toNat = 0)))] (sX10_tried_f (A := ((0 ≤ x ∧ x < D 12 0) ∧ ((0 ≤ x ∧ x < D 12 0) ∧ D 18 x.toNat = 0))) hfl (zOK_put hz (th2_r _ _)) (fun q => hw q.1)) dX10_setAside_30 (by decide) rfl cw_RX10_449 okX10_tried rfl (Nat.le_of_ble_eq_true rfl) ⟨Nat.le_of_ble_eq_true rfl, Nat.le_of_ble_eq_true rfl, Nat.le_of_ble_eq_true rfl, Nat.le_of_ble_eq_true rfl⟩ ?_
    refine zx_if_eq (tgt := 49) (by first | exact hz _ _ | assumption | exact zr_b _ | exact zcmp_r _ _ | (unfold zr at *; omega)) dX10_setAside_33 (by decide) (fun h33 => ?_) (fun h33 => ?_)
    · have h33 := zb_0.mp h33
      refine zx_iconst dX10_setAside_49 ?_
      refine zx_iret rfl rfl dX10_setAside_50 ?_
      rw [hQ]
      refine ⟨congrArg (fun z : Int => (Sum.inl (some (zi z)) : Option zV ⊕ String)) ?_, ?_⟩
      · rfl
      exact ⟨(zOK_put hz (th2_r _ _)), QP_th hR, (zput_s _ _ _ _).trans (th2_1 hw)⟩
    · have h33 := zb_n.mp h33
      exfalso; first | exact hw (by assumption) | (have q : (0 ≤ x ∧ x < D 12 0) ∧ ((0 ≤ x ∧ x < D 12 0) ∧ D 18 x.toNat = 0) := (by assumption); first | exact hw q.1 | exact hw2 q.2.2)
  · have h10 := zb_n.mp h10
    refine zx_aloadN dX10_setAside_13 rfl rfl ?_
    refine zx_iloadN dX10_setAside_14 rfl rfl ?_
    refine zy_top (b := ((x.toNat : Nat) : Int)) (by omega) ?_
    refine zx_iconst dX10_setAside_15 ?_
    refine zy_cv [zi ((x.toNat : Nat) : Int), zi 5] (sX10_of (D := D) (c := x.toNat) (o := 5) hfl hz (by first | assumption | omega) (by first | assumption | (refine Rel_put (by decide) ?_; assumption) | (refine Rel_put (by decide) (Rel_put (by decide) ?_); assumption) | (refine Rel_put (by decide) (Rel_put (by decide) (Rel_put (by decide) ?_)); assumption)) (by first | assumption | omega) (by first | assumption | omega)) dX10_setAside_16 (by decide) rfl cw_RX10_102 okX10_of rfl (Nat.le_of_ble_eq_true rfl) ⟨Nat.le_of_ble_eq_true rfl, Nat.le_of_ble_eq_true rfl, Nat.le_of_ble_eq_true rfl, Nat.le_of_ble_eq_true rfl⟩ ?_
    refine zy_top (b := D 18 x.toNat) rfl ?_
    have hz18 : zr (D 18 x.toNat) := by have := hbx (by omega); unfold zr; omega
    refine zx_if_ne (tgt := 26) (by first | exact hz _ _ | assumption | exact zr_b _ | exact zcmp_r _ _ | (unfold zr at *; omega)) dX10_setAside_19 (by decide) (fun h19 => ?_) (fun h19 => ?_)
    · refine zx_iconst dX10_setAside_26 ?_
      refine zy_top (b := zb ((0 ≤ x ∧ x < D 12 0) ∧ D 18 x.toNat = 0)) (by first | exact (zb_t (by exact ⟨by assumption, by assumption⟩)).symm | exact (zb_f (fun q => absurd q.1 (by assumption))).symm | exact (zb_f (fun q => absurd q.2 (by assumption))).symm) ?_
      refine zy_cv [zi (zb (0 ≤ x ∧ x < D 12 0)), zi (zb ((0 ≤ x ∧ x < D 12 0) ∧ D 18 x.toNat = 0))] (sX10_passesBoth (A := (0 ≤ x ∧ x < D 12 0)) (B := ((0 ≤ x ∧ x < D 12 0) ∧ D 18 x.toNat = 0)) hfl hz ) dX10_setAside_27 (by decide) rfl cw_RX10_406 okX10_passesBoth rfl (Nat.le_of_ble_eq_true rfl) ⟨Nat.le_of_ble_eq_true rfl, Nat.le_of_ble_eq_true rfl, Nat.le_of_ble_eq_true rfl, Nat.le_of_ble_eq_true rfl⟩ ?_
      refine zy_cv [zi (zb ((0 ≤ x ∧ x < D 12 0) ∧ ((0 ≤ x ∧ x < D 12 0) ∧ D 18 x.toNat = 0)))] (sX10_tried_f (A := ((0 ≤ x ∧ x < D 12 0) ∧ ((0 ≤ x ∧ x < D 12 0) ∧ D 18 x.toNat = 0))) hfl (zOK_put hz (th2_r _ _)) (fun q => hw q.1)) dX10_setAside_30 (by decide) rfl cw_RX10_449 okX10_tried rfl (Nat.le_of_ble_eq_true rfl) ⟨Nat.le_of_ble_eq_true rfl, Nat.le_of_ble_eq_true rfl, Nat.le_of_ble_eq_true rfl, Nat.le_of_ble_eq_true rfl⟩ ?_
      refine zx_if_eq (tgt := 49) (by first | exact hz _ _ | assumption | exact zr_b _ | exact zcmp_r _ _ | (unfold zr at *; omega)) dX10_setAside_33 (by decide) (fun h33 => ?_) (fun h33 => ?_)
      · have h33 := zb_0.mp h33
        refine zx_iconst dX10_setAside_49 ?_
        refine zx_iret rfl rfl dX10_setAside_50 ?_
        rw [hQ]
        refine ⟨congrArg (fun z : Int => (Sum.inl (some (zi z)) : Option zV ⊕ String)) ?_, ?_⟩
        · rfl
        exact ⟨(zOK_put hz (th2_r _ _)), QP_th hR, (zput_s _ _ _ _).trans (th2_1 hw)⟩
      · have h33 := zb_n.mp h33
        exfalso; first | exact hw (by assumption) | (have q : (0 ≤ x ∧ x < D 12 0) ∧ ((0 ≤ x ∧ x < D 12 0) ∧ D 18 x.toNat = 0) := (by assumption); first | exact hw q.1 | exact hw2 q.2.2)
    · refine zx_iconst dX10_setAside_22 ?_
      refine zx_goto (tgt := 27) dX10_setAside_23 (by decide) ?_
      refine zy_top (b := zb ((0 ≤ x ∧ x < D 12 0) ∧ D 18 x.toNat = 0)) (by first | exact (zb_t (by exact ⟨by assumption, by assumption⟩)).symm | exact (zb_f (fun q => absurd q.1 (by assumption))).symm | exact (zb_f (fun q => absurd q.2 (by assumption))).symm) ?_
      refine zy_cv [zi (zb (0 ≤ x ∧ x < D 12 0)), zi (zb ((0 ≤ x ∧ x < D 12 0) ∧ D 18 x.toNat = 0))] (sX10_passesBoth (A := (0 ≤ x ∧ x < D 12 0)) (B := ((0 ≤ x ∧ x < D 12 0) ∧ D 18 x.toNat = 0)) hfl hz ) dX10_setAside_27 (by decide) rfl cw_RX10_406 okX10_passesBoth rfl (Nat.le_of_ble_eq_true rfl) ⟨Nat.le_of_ble_eq_true rfl, Nat.le_of_ble_eq_true rfl, Nat.le_of_ble_eq_true rfl, Nat.le_of_ble_eq_true rfl⟩ ?_
      refine zy_cv [zi (zb ((0 ≤ x ∧ x < D 12 0) ∧ ((0 ≤ x ∧ x < D 12 0) ∧ D 18 x.toNat = 0)))] (sX10_tried_f (A := ((0 ≤ x ∧ x < D 12 0) ∧ ((0 ≤ x ∧ x < D 12 0) ∧ D 18 x.toNat = 0))) hfl (zOK_put hz (th2_r _ _)) (fun q => hw q.1)) dX10_setAside_30 (by decide) rfl cw_RX10_449 okX10_tried rfl (Nat.le_of_ble_eq_true rfl) ⟨Nat.le_of_ble_eq_true rfl, Nat.le_of_ble_eq_true rfl, Nat.le_of_ble_eq_true rfl, Nat.le_of_ble_eq_true rfl⟩ ?_
      refine zx_if_eq (tgt := 49) (by first | exact hz _ _ | assumption | exact zr_b _ | exact zcmp_r _ _ | (unfold zr at *; omega)) dX10_setAside_33 (by decide) (fun h33 => ?_) (fun h33 => ?_)
      · have h33 := zb_0.mp h33
        refine zx_iconst dX10_setAside_49 ?_
        refine zx_iret rfl rfl dX10_setAside_50 ?_
        rw [hQ]
        refine ⟨congrArg (fun z : Int => (Sum.inl (some (zi z)) : Option zV ⊕ String)) ?_, ?_⟩
        · rfl
        exact ⟨(zOK_put hz (th2_r _ _)), QP_th hR, (zput_s _ _ _ _).trans (th2_1 hw)⟩
      · have h33 := zb_n.mp h33
        exfalso; first | exact hw (by assumption) | (have q : (0 ≤ x ∧ x < D 12 0) ∧ ((0 ≤ x ∧ x < D 12 0) ∧ D 18 x.toNat = 0) := (by assumption); first | exact hw q.1 | exact hw2 q.2.2)
set_option maxRecDepth 20000 in
set_option maxHeartbeats 2000000 in
theorem sX10_setAside_t2 {l : Launch} {w : zW} (hfl : l.stackTraces = false) {σ : zS} {D : zBk} {x : Int} (hz : zOK σ) (hW : WF D) (hR : Rel D (σ.1 262)) (hx : zr x) (hw : 0 ≤ x ∧ x < D 12 0) (hw2 : ¬ (D 18 x.toNat = 0)) : Sp l w mX10_setAside 13 0 [zf 10 261, zi x] σ (zqv (some (zi 0)) (fun τ => zOK τ ∧ QP D σ τ ∧ τ.1 261 6 = 2)) := by
  obtain ⟨Q, hQ⟩ : ∃ Q : zQ, Q = (zqv (some (zi 0)) (fun τ => zOK τ ∧ QP D σ τ ∧ τ.1 261 6 = 2)) := ⟨_, rfl⟩
  rw [← hQ]
  refine zx_enter hfl (by decide) rfl 1 rfl ?_
  show zX l w mX10_setAside (zMQ w 13 0 Q) 0 [zf 10 261, zi x, zu] [] 0 σ
  have hP : 0 ≤ D 1 0 ∧ D 1 0 ≤ 8 := hW.1.1
  have hM : 0 ≤ D 1 7 ∧ D 1 7 ≤ 8 := hW.1.2.1
  have hE : 0 ≤ D 1 10 ∧ D 1 10 ≤ 12 := hW.1.2.2.1
  have hK : 0 ≤ D 12 0 ∧ D 12 0 ≤ 40 := hW.1.2.2.2
  have r0 : σ.1 262 0 = D 1 0 := hR.1.1
  have r1 : σ.1 262 1 = D 1 7 := hR.1.2.1
  have r2 : σ.1 262 2 = D 1 10 := hR.1.2.2.1
  have r3 : σ.1 262 3 = D 12 0 := hR.1.2.2.2
  have ex : 0 ≤ x → x = ((x.toNat : Nat) : Int) := fun q => by omega
  have hbx : 0 ≤ x ∧ x < D 12 0 → (D 18 x.toNat = 0 ∨ D 18 x.toNat = 1) := fun q => (hW.2.2.2.2.1 x.toNat (by omega)).2.2.2.2
  refine zx_aloadN dX10_setAside_0 rfl rfl ?_
  refine zx_iloadN dX10_setAside_1 rfl rfl ?_
  refine zy_cv [zi x] (sX10_isClue (D := D) hfl hz (by first | assumption | omega) (by first | assumption | (refine Rel_put (by decide) ?_; assumption) | (refine Rel_put (by decide) (Rel_put (by decide) ?_); assumption) | (refine Rel_put (by decide) (Rel_put (by decide) (Rel_put (by decide) ?_)); assumption)) (by first | exact hz _ _ | assumption | exact zr_b _ | exact zcmp_r _ _ | (unfold zr at *; omega))) dX10_setAside_2 (by decide) rfl cw_RX10_205 okX10_isClue rfl (Nat.le_of_ble_eq_true rfl) ⟨Nat.le_of_ble_eq_true rfl, Nat.le_of_ble_eq_true rfl, Nat.le_of_ble_eq_true rfl, Nat.le_of_ble_eq_true rfl⟩ ?_
  refine zy_istoreN [zf 10 261, zi x, zi (zb (0 ≤ x ∧ x < D 12 0))] dX10_setAside_5 rfl (Nat.le_of_ble_eq_true rfl) (Nat.le_of_ble_eq_true rfl) rfl rfl ?_
  refine zx_aloadN dX10_setAside_6 rfl rfl ?_
  refine zx_aloadN dX10_setAside_7 rfl rfl ?_
  refine zx_iloadN dX10_setAside_8 rfl rfl ?_
  refine zx_iloadN dX10_setAside_9 rfl rfl ?_
  refine zx_if_eq (tgt := 26) (by first | exact hz _ _ | assumption | exact zr_b _ | exact zcmp_r _ _ | (unfold zr at *; omega)) dX10_setAside_10 (by decide) (fun h10 => ?_) (fun h10 => ?_)
  · have h10 := zb_0.mp h10
    refine zx_iconst dX10_setAside_26 ?_
    refine zy_top (b := zb ((0 ≤ x ∧ x < D 12 0) ∧ D 18 x.toNat = 0)) (by first | exact (zb_t (by exact ⟨by assumption, by assumption⟩)).symm | exact (zb_f (fun q => absurd q.1 (by assumption))).symm | exact (zb_f (fun q => absurd q.2 (by assumption))).symm) ?_
    refine zy_cv [zi (zb (0 ≤ x ∧ x < D 12 0)), zi (zb ((0 ≤ x ∧ x < D 12 0) ∧ D 18 x.toNat = 0))] (sX10_passesBoth (A := (0 ≤ x ∧ x < D 12 0)) (B := ((0 ≤ x ∧ x < D 12 0) ∧ D 18 x.toNat = 0)) hfl hz ) dX10_setAside_27 (by decide) rfl cw_RX10_406 okX10_passesBoth rfl (Nat.le_of_ble_eq_true rfl) ⟨Nat.le_of_ble_eq_true rfl, Nat.le_of_ble_eq_true rfl, Nat.le_of_ble_eq_true rfl, Nat.le_of_ble_eq_true rfl⟩ ?_
    refine zy_cv [zi (zb ((0 ≤ x ∧ x < D 12 0) ∧ ((0 ≤ x ∧ x < D 12 0) ∧ D 18 x.toNat = 0)))] (sX10_tried_f (A := ((0 ≤ x ∧ x < D 12 0) ∧ ((0 ≤ x ∧ x < D 12 0) ∧ D 18 x.toNat = 0))) hfl (zOK_put hz (th2_r _ _)) (fun q => hw2 q.2.2)) dX10_setAside_30 (by decide) rfl cw_RX10_449 okX10_tried rfl (Nat.le_of_ble_eq_true rfl) ⟨Nat.le_of_ble_eq_true rfl, Nat.le_of_ble_eq_true rfl, Nat.le_of_ble_eq_true rfl, Nat.le_of_ble_eq_true rfl⟩ ?_
    refine zx_if_eq (tgt := 49) (by first | exact hz _ _ | assumption | exact zr_b _ | exact zcmp_r _ _ | (unfold zr at *; omega)) dX10_setAside_33 (by decide) (fun h33 => ?_) (fun h33 => ?_)
    · have h33 := zb_0.mp h33
      refine zx_iconst dX10_setAside_49 ?_
      refine zx_iret rfl rfl dX10_setAside_50 ?_
      rw [hQ]
      refine ⟨congrArg (fun z : Int => (Sum.inl (some (zi z)) : Option zV ⊕ String)) ?_, ?_⟩
      · rfl
      exact ⟨(zOK_put hz (th2_r _ _)), QP_th hR, (zput_s _ _ _ _).trans (th2_2 hw (fun q => hw2 q.2))⟩
    · have h33 := zb_n.mp h33
      exfalso; first | exact hw (by assumption) | (have q : (0 ≤ x ∧ x < D 12 0) ∧ ((0 ≤ x ∧ x < D 12 0) ∧ D 18 x.toNat = 0) := (by assumption); first | exact hw q.1 | exact hw2 q.2.2)
  · have h10 := zb_n.mp h10
    refine zx_aloadN dX10_setAside_13 rfl rfl ?_
    refine zx_iloadN dX10_setAside_14 rfl rfl ?_
    refine zy_top (b := ((x.toNat : Nat) : Int)) (by omega) ?_
    refine zx_iconst dX10_setAside_15 ?_
    refine zy_cv [zi ((x.toNat : Nat) : Int), zi 5] (sX10_of (D := D) (c := x.toNat) (o := 5) hfl hz (by first | assumption | omega) (by first | assumption | (refine Rel_put (by decide) ?_; assumption) | (refine Rel_put (by decide) (Rel_put (by decide) ?_); assumption) | (refine Rel_put (by decide) (Rel_put (by decide) (Rel_put (by decide) ?_)); assumption)) (by first | assumption | omega) (by first | assumption | omega)) dX10_setAside_16 (by decide) rfl cw_RX10_102 okX10_of rfl (Nat.le_of_ble_eq_true rfl) ⟨Nat.le_of_ble_eq_true rfl, Nat.le_of_ble_eq_true rfl, Nat.le_of_ble_eq_true rfl, Nat.le_of_ble_eq_true rfl⟩ ?_
    refine zy_top (b := D 18 x.toNat) rfl ?_
    have hz18 : zr (D 18 x.toNat) := by have := hbx (by omega); unfold zr; omega
    refine zx_if_ne (tgt := 26) (by first | exact hz _ _ | assumption | exact zr_b _ | exact zcmp_r _ _ | (unfold zr at *; omega)) dX10_setAside_19 (by decide) (fun h19 => ?_) (fun h19 => ?_)
    · refine zx_iconst dX10_setAside_26 ?_
      refine zy_top (b := zb ((0 ≤ x ∧ x < D 12 0) ∧ D 18 x.toNat = 0)) (by first | exact (zb_t (by exact ⟨by assumption, by assumption⟩)).symm | exact (zb_f (fun q => absurd q.1 (by assumption))).symm | exact (zb_f (fun q => absurd q.2 (by assumption))).symm) ?_
      refine zy_cv [zi (zb (0 ≤ x ∧ x < D 12 0)), zi (zb ((0 ≤ x ∧ x < D 12 0) ∧ D 18 x.toNat = 0))] (sX10_passesBoth (A := (0 ≤ x ∧ x < D 12 0)) (B := ((0 ≤ x ∧ x < D 12 0) ∧ D 18 x.toNat = 0)) hfl hz ) dX10_setAside_27 (by decide) rfl cw_RX10_406 okX10_passesBoth rfl (Nat.le_of_ble_eq_true rfl) ⟨Nat.le_of_ble_eq_true rfl, Nat.le_of_ble_eq_true rfl, Nat.le_of_ble_eq_true rfl, Nat.le_of_ble_eq_true rfl⟩ ?_
      refine zy_cv [zi (zb ((0 ≤ x ∧ x < D 12 0) ∧ ((0 ≤ x ∧ x < D 12 0) ∧ D 18 x.toNat = 0)))] (sX10_tried_f (A := ((0 ≤ x ∧ x < D 12 0) ∧ ((0 ≤ x ∧ x < D 12 0) ∧ D 18 x.toNat = 0))) hfl (zOK_put hz (th2_r _ _)) (fun q => hw2 q.2.2)) dX10_setAside_30 (by decide) rfl cw_RX10_449 okX10_tried rfl (Nat.le_of_ble_eq_true rfl) ⟨Nat.le_of_ble_eq_true rfl, Nat.le_of_ble_eq_true rfl, Nat.le_of_ble_eq_true rfl, Nat.le_of_ble_eq_true rfl⟩ ?_
      refine zx_if_eq (tgt := 49) (by first | exact hz _ _ | assumption | exact zr_b _ | exact zcmp_r _ _ | (unfold zr at *; omega)) dX10_setAside_33 (by decide) (fun h33 => ?_) (fun h33 => ?_)
      · have h33 := zb_0.mp h33
        refine zx_iconst dX10_setAside_49 ?_
        refine zx_iret rfl rfl dX10_setAside_50 ?_
        rw [hQ]
        refine ⟨congrArg (fun z : Int => (Sum.inl (some (zi z)) : Option zV ⊕ String)) ?_, ?_⟩
        · rfl
        exact ⟨(zOK_put hz (th2_r _ _)), QP_th hR, (zput_s _ _ _ _).trans (th2_2 hw (fun q => hw2 q.2))⟩
      · have h33 := zb_n.mp h33
        exfalso; first | exact hw (by assumption) | (have q : (0 ≤ x ∧ x < D 12 0) ∧ ((0 ≤ x ∧ x < D 12 0) ∧ D 18 x.toNat = 0) := (by assumption); first | exact hw q.1 | exact hw2 q.2.2)
    · refine zx_iconst dX10_setAside_22 ?_
      refine zx_goto (tgt := 27) dX10_setAside_23 (by decide) ?_
      refine zy_top (b := zb ((0 ≤ x ∧ x < D 12 0) ∧ D 18 x.toNat = 0)) (by first | exact (zb_t (by exact ⟨by assumption, by assumption⟩)).symm | exact (zb_f (fun q => absurd q.1 (by assumption))).symm | exact (zb_f (fun q => absurd q.2 (by assumption))).symm) ?_
      refine zy_cv [zi (zb (0 ≤ x ∧ x < D 12 0)), zi (zb ((0 ≤ x ∧ x < D 12 0) ∧ D 18 x.toNat = 0))] (sX10_passesBoth (A := (0 ≤ x ∧ x < D 12 0)) (B := ((0 ≤ x ∧ x < D 12 0) ∧ D 18 x.toNat = 0)) hfl hz ) dX10_setAside_27 (by decide) rfl cw_RX10_406 okX10_passesBoth rfl (Nat.le_of_ble_eq_true rfl) ⟨Nat.le_of_ble_eq_true rfl, Nat.le_of_ble_eq_true rfl, Nat.le_of_ble_eq_true rfl, Nat.le_of_ble_eq_true rfl⟩ ?_
      refine zy_cv [zi (zb ((0 ≤ x ∧ x < D 12 0) ∧ ((0 ≤ x ∧ x < D 12 0) ∧ D 18 x.toNat = 0)))] (sX10_tried_f (A := ((0 ≤ x ∧ x < D 12 0) ∧ ((0 ≤ x ∧ x < D 12 0) ∧ D 18 x.toNat = 0))) hfl (zOK_put hz (th2_r _ _)) (fun q => hw2 q.2.2)) dX10_setAside_30 (by decide) rfl cw_RX10_449 okX10_tried rfl (Nat.le_of_ble_eq_true rfl) ⟨Nat.le_of_ble_eq_true rfl, Nat.le_of_ble_eq_true rfl, Nat.le_of_ble_eq_true rfl, Nat.le_of_ble_eq_true rfl⟩ ?_
      refine zx_if_eq (tgt := 49) (by first | exact hz _ _ | assumption | exact zr_b _ | exact zcmp_r _ _ | (unfold zr at *; omega)) dX10_setAside_33 (by decide) (fun h33 => ?_) (fun h33 => ?_)
      · have h33 := zb_0.mp h33
        refine zx_iconst dX10_setAside_49 ?_
        refine zx_iret rfl rfl dX10_setAside_50 ?_
        rw [hQ]
        refine ⟨congrArg (fun z : Int => (Sum.inl (some (zi z)) : Option zV ⊕ String)) ?_, ?_⟩
        · rfl
        exact ⟨(zOK_put hz (th2_r _ _)), QP_th hR, (zput_s _ _ _ _).trans (th2_2 hw (fun q => hw2 q.2))⟩
      · have h33 := zb_n.mp h33
        exfalso; first | exact hw (by assumption) | (have q : (0 ≤ x ∧ x < D 12 0) ∧ ((0 ≤ x ∧ x < D 12 0) ∧ D 18 x.toNat = 0) := (by assumption); first | exact hw q.1 | exact hw2 q.2.2)
set_option maxRecDepth 20000 in
set_option maxHeartbeats 2000000 in
theorem sX10_setAside {l : Launch} {w : zW} (hfl : l.stackTraces = false) {σ : zS} {D : zBk} {x : Int} (hz : zOK σ) (hW : WF D) (hR : Rel D (σ.1 262)) (hx : zr x) (hP1 : 1 ≤ D 1 0) (hm5 : 0 ≤ σ.1 261 5 ∧ σ.1 261 5 ≤ 8) (hw : 0 ≤ x ∧ x < D 12 0) (hw2 : D 18 x.toNat = 0) : Sp l w mX10_setAside 13 0 [zf 10 261, zi x] σ (zqv (some (zi (wS (ov D 18 x.toNat 1) (Ht (ov D 18 x.toNat 1))))) (fun τ => zOK τ ∧ mfr σ τ mA mF ∧ Rel (ov D 18 x.toNat 1) (τ.1 262) ∧ MPu σ τ (σ.1 262) ∧ τ.1 261 6 = 0)) := by
  obtain ⟨Q, hQ⟩ : ∃ Q : zQ, Q = (zqv (some (zi (wS (ov D 18 x.toNat 1) (Ht (ov D 18 x.toNat 1))))) (fun τ => zOK τ ∧ mfr σ τ mA mF ∧ Rel (ov D 18 x.toNat 1) (τ.1 262) ∧ MPu σ τ (σ.1 262) ∧ τ.1 261 6 = 0)) := ⟨_, rfl⟩
  rw [← hQ]
  refine zx_enter hfl (by decide) rfl 1 rfl ?_
  show zX l w mX10_setAside (zMQ w 13 0 Q) 0 [zf 10 261, zi x, zu] [] 0 σ
  have hP : 0 ≤ D 1 0 ∧ D 1 0 ≤ 8 := hW.1.1
  have hM : 0 ≤ D 1 7 ∧ D 1 7 ≤ 8 := hW.1.2.1
  have hE : 0 ≤ D 1 10 ∧ D 1 10 ≤ 12 := hW.1.2.2.1
  have hK : 0 ≤ D 12 0 ∧ D 12 0 ≤ 40 := hW.1.2.2.2
  have r0 : σ.1 262 0 = D 1 0 := hR.1.1
  have r1 : σ.1 262 1 = D 1 7 := hR.1.2.1
  have r2 : σ.1 262 2 = D 1 10 := hR.1.2.2.1
  have r3 : σ.1 262 3 = D 12 0 := hR.1.2.2.2
  have ex : 0 ≤ x → x = ((x.toNat : Nat) : Int) := fun q => by omega
  have hbx : 0 ≤ x ∧ x < D 12 0 → (D 18 x.toNat = 0 ∨ D 18 x.toNat = 1) := fun q => (hW.2.2.2.2.1 x.toNat (by omega)).2.2.2.2
  refine zx_aloadN dX10_setAside_0 rfl rfl ?_
  refine zx_iloadN dX10_setAside_1 rfl rfl ?_
  refine zy_cv [zi x] (sX10_isClue (D := D) hfl hz (by first | assumption | omega) (by first | assumption | (refine Rel_put (by decide) ?_; assumption) | (refine Rel_put (by decide) (Rel_put (by decide) ?_); assumption) | (refine Rel_put (by decide) (Rel_put (by decide) (Rel_put (by decide) ?_)); assumption)) (by first | exact hz _ _ | assumption | exact zr_b _ | exact zcmp_r _ _ | (unfold zr at *; omega))) dX10_setAside_2 (by decide) rfl cw_RX10_205 okX10_isClue rfl (Nat.le_of_ble_eq_true rfl) ⟨Nat.le_of_ble_eq_true rfl, Nat.le_of_ble_eq_true rfl, Nat.le_of_ble_eq_true rfl, Nat.le_of_ble_eq_true rfl⟩ ?_
  refine zy_istoreN [zf 10 261, zi x, zi (zb (0 ≤ x ∧ x < D 12 0))] dX10_setAside_5 rfl (Nat.le_of_ble_eq_true rfl) (Nat.le_of_ble_eq_true rfl) rfl rfl ?_
  refine zx_aloadN dX10_setAside_6 rfl rfl ?_
  refine zx_aloadN dX10_setAside_7 rfl rfl ?_
  refine zx_iloadN dX10_setAside_8 rfl rfl ?_
  refine zx_iloadN dX10_setAside_9 rfl rfl ?_
  refine zx_if_eq (tgt := 26) (by first | exact hz _ _ | assumption | exact zr_b _ | exact zcmp_r _ _ | (unfold zr at *; omega)) dX10_setAside_10 (by decide) (fun h10 => ?_) (fun h10 => ?_)
  · have h10 := zb_0.mp h10
    refine zx_iconst dX10_setAside_26 ?_
    refine zy_top (b := zb ((0 ≤ x ∧ x < D 12 0) ∧ D 18 x.toNat = 0)) (by first | exact (zb_t (by exact ⟨by assumption, by assumption⟩)).symm | exact (zb_f (fun q => absurd q.1 (by assumption))).symm | exact (zb_f (fun q => absurd q.2 (by assumption))).symm) ?_
    refine zy_cv [zi (zb (0 ≤ x ∧ x < D 12 0)), zi (zb ((0 ≤ x ∧ x < D 12 0) ∧ D 18 x.toNat = 0))] (sX10_passesBoth (A := (0 ≤ x ∧ x < D 12 0)) (B := ((0 ≤ x ∧ x < D 12 0) ∧ D 18 x.toNat = 0)) hfl hz ) dX10_setAside_27 (by decide) rfl cw_RX10_406 okX10_passesBoth rfl (Nat.le_of_ble_eq_true rfl) ⟨Nat.le_of_ble_eq_true rfl, Nat.le_of_ble_eq_true rfl, Nat.le_of_ble_eq_true rfl, Nat.le_of_ble_eq_true rfl⟩ ?_
    refine zy_cvR [zi (zb ((0 ≤ x ∧ x < D 12 0) ∧ ((0 ≤ x ∧ x < D 12 0) ∧ D 18 x.toNat = 0)))] (sX10_tried (A := ((0 ≤ x ∧ x < D 12 0) ∧ ((0 ≤ x ∧ x < D 12 0) ∧ D 18 x.toNat = 0))) hfl (zOK_put hz (th2_r _ _)) ⟨hw, hw, hw2⟩) dX10_setAside_30 (by decide) rfl cw_RX10_449 okX10_tried rfl (Nat.le_of_ble_eq_true rfl) ⟨Nat.le_of_ble_eq_true rfl, Nat.le_of_ble_eq_true rfl, Nat.le_of_ble_eq_true rfl, Nat.le_of_ble_eq_true rfl⟩ (fun τ30 hr30 => ?_)
    have hz30 : zOK τ30 := hr30.1
    have hRt : Rel D (τ30.1 262) := mfr_R (mfr_cpo hr30.2 (by decide)) (by decide) (Rel_put (by decide) hR)
    have h5t : 0 ≤ τ30.1 261 5 ∧ τ30.1 261 5 ≤ 8 := by rw [hr30.2.1 261 (by decide), zput_i _ _ _ _ _ (by decide)]; exact hm5
    refine zx_if_eq (tgt := 49) (by first | exact hz30 _ _ | assumption | exact zr_b _ | exact zcmp_r _ _ | (unfold zr at *; omega)) dX10_setAside_33 (by decide) (fun h33 => ?_) (fun h33 => ?_)
    · have h33 := zb_0.mp h33
      exact absurd (⟨hw, hw, hw2⟩ : (0 ≤ x ∧ x < D 12 0) ∧ ((0 ≤ x ∧ x < D 12 0) ∧ D 18 x.toNat = 0)) (by assumption)
    · have h33 := zb_n.mp h33
      refine zx_aloadN dX10_setAside_36 rfl rfl ?_
      refine zx_aloadN dX10_setAside_37 rfl rfl ?_
      refine zx_iloadN dX10_setAside_38 rfl rfl ?_
      refine zx_iconst dX10_setAside_39 ?_
      refine zy_cvR [zi x, zi 1] (sX10_asideNow (D := D) hfl hz30 (by first | assumption | omega) hRt (by first | exact hz30 _ _ | assumption | exact zr_b _ | exact zcmp_r _ _ | (unfold zr at *; omega)) (by omega) (by first | assumption | omega) ⟨hw.1, hw.2, by omega⟩) dX10_setAside_40 (by decide) rfl cw_RX10_378 okX10_asideNow rfl (Nat.le_of_ble_eq_true rfl) ⟨Nat.le_of_ble_eq_true rfl, Nat.le_of_ble_eq_true rfl, Nat.le_of_ble_eq_true rfl, Nat.le_of_ble_eq_true rfl⟩ (fun τ40 hr40 => ?_)
      have hz40 : zOK τ40 := hr40.1
      have h5n : 0 ≤ τ40.1 261 5 ∧ τ40.1 261 5 ≤ 8 := by rw [hr40.2.1.2.1 5 (by omega)]; exact h5t
      refine zy_cvR [zi (zb True)] (sX10_done (A := True) hfl hz40 h5n) dX10_setAside_43 (by decide) rfl cw_RX10_452 okX10_done rfl (Nat.le_of_ble_eq_true rfl) ⟨Nat.le_of_ble_eq_true rfl, Nat.le_of_ble_eq_true rfl, Nat.le_of_ble_eq_true rfl, Nat.le_of_ble_eq_true rfl⟩ (fun τ43 hr43 => ?_)
      have hz43 : zOK τ43 := hr43.1
      refine zx_goto (tgt := 50) dX10_setAside_46 (by decide) ?_
      refine zx_iret rfl rfl dX10_setAside_50 ?_
      rw [hQ]
      refine ⟨congrArg (fun z : Int => (Sum.inl (some (zi z)) : Option zV ⊕ String)) ?_, ?_⟩
      · exact hr40.2.2.2
      have ht : mfr (zput σ 261 6 (th2 (0 ≤ x ∧ x < D 12 0) ((0 ≤ x ∧ x < D 12 0) ∧ D 18 x.toNat = 0))) τ30 (fun k => k = 264) (fun _ => False) := mfr_cpo hr30.2 (by decide)
      have mB : mfr σ (zput σ 261 6 (th2 (0 ≤ x ∧ x < D 12 0) ((0 ≤ x ∧ x < D 12 0) ∧ D 18 x.toNat = 0))) (fun _ => False) (fun i => i = 6) := mfr_mo (mfr_put261 (mfr_rf σ (fun _ => False) (fun _ => False))) (fun k q => q) (fun i q => by rcases q with q | q; exact absurd q id; exact q)
      have m1 : mfr σ τ30 mA mF := mfr_tr mB ht (fun k q => by rcases q with q | q; exact absurd q id; exact Or.inr (Or.inl q)) (fun i q => by rcases q with q | q; exact Or.inr (Or.inl q); exact absurd q id)
      have m2 : mfr σ τ40 mA mF := mfr_tr m1 hr40.2.1 (fun k q => by unfold mA at *; omega) (fun i q => by unfold mF at *; omega)
      have m3 : mfr σ τ43 mA mF := mfr_tr m2 hr43.2.1 (fun k q => by unfold mA at *; omega) (fun i q => by unfold mF at *; omega)
      have h264 : ∀ j, j < 380 → τ40.1 264 j = σ.1 262 j := fun j hj => by
        rw [hr40.2.1.1 264 (by omega) (by omega) j]
        have := hr30.2.2.2.1 j hj
        rw [Nat.zero_add] at this
        rw [this]; exact zput_k _ _ _ _ _ (by omega)
      have h266 : ∀ j, τ40.1 266 j = σ.1 266 j := fun j => by
        rw [hr40.2.1.1 266 (by omega) (by omega) j, ht.1 266 (by omega) (by omega) j]; exact zput_k _ _ _ _ _ (by omega)
      have h65 : τ40.1 261 5 = σ.1 261 5 := by
        rw [hr40.2.1.2.1 5 (by omega), ht.2.1 5 (fun q => q)]; exact zput_i _ _ _ _ _ (by omega)
      have h66 : τ43.1 261 6 = 0 := by
        rw [hr43.2.1.2.1 6 (by omega), hr40.2.1.2.1 6 (by omega), ht.2.1 6 (fun q => q)]; exact (zput_s _ _ _ _).trans (th2_0 hw ⟨hw, hw2⟩)
      exact ⟨hz43, m3, mfr_R hr43.2.1 (by omega) hr40.2.2.1, MPu_to hr43.2.2 h65 h266 h264, h66⟩
  · have h10 := zb_n.mp h10
    refine zx_aloadN dX10_setAside_13 rfl rfl ?_
    refine zx_iloadN dX10_setAside_14 rfl rfl ?_
    refine zy_top (b := ((x.toNat : Nat) : Int)) (by omega) ?_
    refine zx_iconst dX10_setAside_15 ?_
    refine zy_cv [zi ((x.toNat : Nat) : Int), zi 5] (sX10_of (D := D) (c := x.toNat) (o := 5) hfl hz (by first | assumption | omega) (by first | assumption | (refine Rel_put (by decide) ?_; assumption) | (refine Rel_put (by decide) (Rel_put (by decide) ?_); assumption) | (refine Rel_put (by decide) (Rel_put (by decide) (Rel_put (by decide) ?_)); assumption)) (by first | assumption | omega) (by first | assumption | omega)) dX10_setAside_16 (by decide) rfl cw_RX10_102 okX10_of rfl (Nat.le_of_ble_eq_true rfl) ⟨Nat.le_of_ble_eq_true rfl, Nat.le_of_ble_eq_true rfl, Nat.le_of_ble_eq_true rfl, Nat.le_of_ble_eq_true rfl⟩ ?_
    refine zy_top (b := D 18 x.toNat) rfl ?_
    have hz18 : zr (D 18 x.toNat) := by have := hbx (by omega); unfold zr; omega
    refine zx_if_ne (tgt := 26) (by first | exact hz _ _ | assumption | exact zr_b _ | exact zcmp_r _ _ | (unfold zr at *; omega)) dX10_setAside_19 (by decide) (fun h19 => ?_) (fun h19 => ?_)
    · refine zx_iconst dX10_setAside_26 ?_
      refine zy_top (b := zb ((0 ≤ x ∧ x < D 12 0) ∧ D 18 x.toNat = 0)) (by first | exact (zb_t (by exact ⟨by assumption, by assumption⟩)).symm | exact (zb_f (fun q => absurd q.1 (by assumption))).symm | exact (zb_f (fun q => absurd q.2 (by assumption))).symm) ?_
      refine zy_cv [zi (zb (0 ≤ x ∧ x < D 12 0)), zi (zb ((0 ≤ x ∧ x < D 12 0) ∧ D 18 x.toNat = 0))] (sX10_passesBoth (A := (0 ≤ x ∧ x < D 12 0)) (B := ((0 ≤ x ∧ x < D 12 0) ∧ D 18 x.toNat = 0)) hfl hz ) dX10_setAside_27 (by decide) rfl cw_RX10_406 okX10_passesBoth rfl (Nat.le_of_ble_eq_true rfl) ⟨Nat.le_of_ble_eq_true rfl, Nat.le_of_ble_eq_true rfl, Nat.le_of_ble_eq_true rfl, Nat.le_of_ble_eq_true rfl⟩ ?_
      refine zy_cvR [zi (zb ((0 ≤ x ∧ x < D 12 0) ∧ ((0 ≤ x ∧ x < D 12 0) ∧ D 18 x.toNat = 0)))] (sX10_tried (A := ((0 ≤ x ∧ x < D 12 0) ∧ ((0 ≤ x ∧ x < D 12 0) ∧ D 18 x.toNat = 0))) hfl (zOK_put hz (th2_r _ _)) ⟨hw, hw, hw2⟩) dX10_setAside_30 (by decide) rfl cw_RX10_449 okX10_tried rfl (Nat.le_of_ble_eq_true rfl) ⟨Nat.le_of_ble_eq_true rfl, Nat.le_of_ble_eq_true rfl, Nat.le_of_ble_eq_true rfl, Nat.le_of_ble_eq_true rfl⟩ (fun τ30 hr30 => ?_)
      have hz30 : zOK τ30 := hr30.1
      have hRt : Rel D (τ30.1 262) := mfr_R (mfr_cpo hr30.2 (by decide)) (by decide) (Rel_put (by decide) hR)
      have h5t : 0 ≤ τ30.1 261 5 ∧ τ30.1 261 5 ≤ 8 := by rw [hr30.2.1 261 (by decide), zput_i _ _ _ _ _ (by decide)]; exact hm5
      refine zx_if_eq (tgt := 49) (by first | exact hz30 _ _ | assumption | exact zr_b _ | exact zcmp_r _ _ | (unfold zr at *; omega)) dX10_setAside_33 (by decide) (fun h33 => ?_) (fun h33 => ?_)
      · have h33 := zb_0.mp h33
        exact absurd (⟨hw, hw, hw2⟩ : (0 ≤ x ∧ x < D 12 0) ∧ ((0 ≤ x ∧ x < D 12 0) ∧ D 18 x.toNat = 0)) (by assumption)
      · have h33 := zb_n.mp h33
        refine zx_aloadN dX10_setAside_36 rfl rfl ?_
        refine zx_aloadN dX10_setAside_37 rfl rfl ?_
        refine zx_iloadN dX10_setAside_38 rfl rfl ?_
        refine zx_iconst dX10_setAside_39 ?_
        refine zy_cvR [zi x, zi 1] (sX10_asideNow (D := D) hfl hz30 (by first | assumption | omega) hRt (by first | exact hz30 _ _ | assumption | exact zr_b _ | exact zcmp_r _ _ | (unfold zr at *; omega)) (by omega) (by first | assumption | omega) ⟨hw.1, hw.2, by omega⟩) dX10_setAside_40 (by decide) rfl cw_RX10_378 okX10_asideNow rfl (Nat.le_of_ble_eq_true rfl) ⟨Nat.le_of_ble_eq_true rfl, Nat.le_of_ble_eq_true rfl, Nat.le_of_ble_eq_true rfl, Nat.le_of_ble_eq_true rfl⟩ (fun τ40 hr40 => ?_)
        have hz40 : zOK τ40 := hr40.1
        have h5n : 0 ≤ τ40.1 261 5 ∧ τ40.1 261 5 ≤ 8 := by rw [hr40.2.1.2.1 5 (by omega)]; exact h5t
        refine zy_cvR [zi (zb True)] (sX10_done (A := True) hfl hz40 h5n) dX10_setAside_43 (by decide) rfl cw_RX10_452 okX10_done rfl (Nat.le_of_ble_eq_true rfl) ⟨Nat.le_of_ble_eq_true rfl, Nat.le_of_ble_eq_true rfl, Nat.le_of_ble_eq_true rfl, Nat.le_of_ble_eq_true rfl⟩ (fun τ43 hr43 => ?_)
        have hz43 : zOK τ43 := hr43.1
        refine zx_goto (tgt := 50) dX10_setAside_46 (by decide) ?_
        refine zx_iret rfl rfl dX10_setAside_50 ?_
        rw [hQ]
        refine ⟨congrArg (fun z : Int => (Sum.inl (some (zi z)) : Option zV ⊕ String)) ?_, ?_⟩
        · exact hr40.2.2.2
        have ht : mfr (zput σ 261 6 (th2 (0 ≤ x ∧ x < D 12 0) ((0 ≤ x ∧ x < D 12 0) ∧ D 18 x.toNat = 0))) τ30 (fun k => k = 264) (fun _ => False) := mfr_cpo hr30.2 (by decide)
        have mB : mfr σ (zput σ 261 6 (th2 (0 ≤ x ∧ x < D 12 0) ((0 ≤ x ∧ x < D 12 0) ∧ D 18 x.toNat = 0))) (fun _ => False) (fun i => i = 6) := mfr_mo (mfr_put261 (mfr_rf σ (fun _ => False) (fun _ => False))) (fun k q => q) (fun i q => by rcases q with q | q; exact absurd q id; exact q)
        have m1 : mfr σ τ30 mA mF := mfr_tr mB ht (fun k q => by rcases q with q | q; exact absurd q id; exact Or.inr (Or.inl q)) (fun i q => by rcases q with q | q; exact Or.inr (Or.inl q); exact absurd q id)
        have m2 : mfr σ τ40 mA mF := mfr_tr m1 hr40.2.1 (fun k q => by unfold mA at *; omega) (fun i q => by unfold mF at *; omega)
        have m3 : mfr σ τ43 mA mF := mfr_tr m2 hr43.2.1 (fun k q => by unfold mA at *; omega) (fun i q => by unfold mF at *; omega)
        have h264 : ∀ j, j < 380 → τ40.1 264 j = σ.1 262 j := fun j hj => by
          rw [hr40.2.1.1 264 (by omega) (by omega) j]
          have := hr30.2.2.2.1 j hj
          rw [Nat.zero_add] at this
          rw [this]; exact zput_k _ _ _ _ _ (by omega)
        have h266 : ∀ j, τ40.1 266 j = σ.1 266 j := fun j => by
          rw [hr40.2.1.1 266 (by omega) (by omega) j, ht.1 266 (by omega) (by omega) j]; exact zput_k _ _ _ _ _ (by omega)
        have h65 : τ40.1 261 5 = σ.1 261 5 := by
          rw [hr40.2.1.2.1 5 (by omega), ht.2.1 5 (fun q => q)]; exact zput_i _ _ _ _ _ (by omega)
        have h66 : τ43.1 261 6 = 0 := by
          rw [hr43.2.1.2.1 6 (by omega), hr40.2.1.2.1 6 (by omega), ht.2.1 6 (fun q => q)]; exact (zput_s _ _ _ _).trans (th2_0 hw ⟨hw, hw2⟩)
        exact ⟨hz43, m3, mfr_R hr43.2.1 (by omega) hr40.2.2.1, MPu_to hr43.2.2 h65 h266 h264, h66⟩
    · refine zx_iconst dX10_setAside_22 ?_
      refine zx_goto (tgt := 27) dX10_setAside_23 (by decide) ?_
      refine zy_top (b := zb ((0 ≤ x ∧ x < D 12 0) ∧ D 18 x.toNat = 0)) (by first | exact (zb_t (by exact ⟨by assumption, by assumption⟩)).symm | exact (zb_f (fun q => absurd q.1 (by assumption))).symm | exact (zb_f (fun q => absurd q.2 (by assumption))).symm) ?_
      refine zy_cv [zi (zb (0 ≤ x ∧ x < D 12 0)), zi (zb ((0 ≤ x ∧ x < D 12 0) ∧ D 18 x.toNat = 0))] (sX10_passesBoth (A := (0 ≤ x ∧ x < D 12 0)) (B := ((0 ≤ x ∧ x < D 12 0) ∧ D 18 x.toNat = 0)) hfl hz ) dX10_setAside_27 (by decide) rfl cw_RX10_406 okX10_passesBoth rfl (Nat.le_of_ble_eq_true rfl) ⟨Nat.le_of_ble_eq_true rfl, Nat.le_of_ble_eq_true rfl, Nat.le_of_ble_eq_true rfl, Nat.le_of_ble_eq_true rfl⟩ ?_
      refine zy_cvR [zi (zb ((0 ≤ x ∧ x < D 12 0) ∧ ((0 ≤ x ∧ x < D 12 0) ∧ D 18 x.toNat = 0)))] (sX10_tried (A := ((0 ≤ x ∧ x < D 12 0) ∧ ((0 ≤ x ∧ x < D 12 0) ∧ D 18 x.toNat = 0))) hfl (zOK_put hz (th2_r _ _)) ⟨hw, hw, hw2⟩) dX10_setAside_30 (by decide) rfl cw_RX10_449 okX10_tried rfl (Nat.le_of_ble_eq_true rfl) ⟨Nat.le_of_ble_eq_true rfl, Nat.le_of_ble_eq_true rfl, Nat.le_of_ble_eq_true rfl, Nat.le_of_ble_eq_true rfl⟩ (fun τ30 hr30 => ?_)
      have hz30 : zOK τ30 := hr30.1
      have hRt : Rel D (τ30.1 262) := mfr_R (mfr_cpo hr30.2 (by decide)) (by decide) (Rel_put (by decide) hR)
      have h5t : 0 ≤ τ30.1 261 5 ∧ τ30.1 261 5 ≤ 8 := by rw [hr30.2.1 261 (by decide), zput_i _ _ _ _ _ (by decide)]; exact hm5
      refine zx_if_eq (tgt := 49) (by first | exact hz30 _ _ | assumption | exact zr_b _ | exact zcmp_r _ _ | (unfold zr at *; omega)) dX10_setAside_33 (by decide) (fun h33 => ?_) (fun h33 => ?_)
      · have h33 := zb_0.mp h33
        exact absurd (⟨hw, hw, hw2⟩ : (0 ≤ x ∧ x < D 12 0) ∧ ((0 ≤ x ∧ x < D 12 0) ∧ D 18 x.toNat = 0)) (by assumption)
      · have h33 := zb_n.mp h33
        refine zx_aloadN dX10_setAside_36 rfl rfl ?_
        refine zx_aloadN dX10_setAside_37 rfl rfl ?_
        refine zx_iloadN dX10_setAside_38 rfl rfl ?_
        refine zx_iconst dX10_setAside_39 ?_
        refine zy_cvR [zi x, zi 1] (sX10_asideNow (D := D) hfl hz30 (by first | assumption | omega) hRt (by first | exact hz30 _ _ | assumption | exact zr_b _ | exact zcmp_r _ _ | (unfold zr at *; omega)) (by omega) (by first | assumption | omega) ⟨hw.1, hw.2, by omega⟩) dX10_setAside_40 (by decide) rfl cw_RX10_378 okX10_asideNow rfl (Nat.le_of_ble_eq_true rfl) ⟨Nat.le_of_ble_eq_true rfl, Nat.le_of_ble_eq_true rfl, Nat.le_of_ble_eq_true rfl, Nat.le_of_ble_eq_true rfl⟩ (fun τ40 hr40 => ?_)
        have hz40 : zOK τ40 := hr40.1
        have h5n : 0 ≤ τ40.1 261 5 ∧ τ40.1 261 5 ≤ 8 := by rw [hr40.2.1.2.1 5 (by omega)]; exact h5t
        refine zy_cvR [zi (zb True)] (sX10_done (A := True) hfl hz40 h5n) dX10_setAside_43 (by decide) rfl cw_RX10_452 okX10_done rfl (Nat.le_of_ble_eq_true rfl) ⟨Nat.le_of_ble_eq_true rfl, Nat.le_of_ble_eq_true rfl, Nat.le_of_ble_eq_true rfl, Nat.le_of_ble_eq_true rfl⟩ (fun τ43 hr43 => ?_)
        have hz43 : zOK τ43 := hr43.1
        refine zx_goto (tgt := 50) dX10_setAside_46 (by decide) ?_
        refine zx_iret rfl rfl dX10_setAside_50 ?_
        rw [hQ]
        refine ⟨congrArg (fun z : Int => (Sum.inl (some (zi z)) : Option zV ⊕ String)) ?_, ?_⟩
        · exact hr40.2.2.2
        have ht : mfr (zput σ 261 6 (th2 (0 ≤ x ∧ x < D 12 0) ((0 ≤ x ∧ x < D 12 0) ∧ D 18 x.toNat = 0))) τ30 (fun k => k = 264) (fun _ => False) := mfr_cpo hr30.2 (by decide)
        have mB : mfr σ (zput σ 261 6 (th2 (0 ≤ x ∧ x < D 12 0) ((0 ≤ x ∧ x < D 12 0) ∧ D 18 x.toNat = 0))) (fun _ => False) (fun i => i = 6) := mfr_mo (mfr_put261 (mfr_rf σ (fun _ => False) (fun _ => False))) (fun k q => q) (fun i q => by rcases q with q | q; exact absurd q id; exact q)
        have m1 : mfr σ τ30 mA mF := mfr_tr mB ht (fun k q => by rcases q with q | q; exact absurd q id; exact Or.inr (Or.inl q)) (fun i q => by rcases q with q | q; exact Or.inr (Or.inl q); exact absurd q id)
        have m2 : mfr σ τ40 mA mF := mfr_tr m1 hr40.2.1 (fun k q => by unfold mA at *; omega) (fun i q => by unfold mF at *; omega)
        have m3 : mfr σ τ43 mA mF := mfr_tr m2 hr43.2.1 (fun k q => by unfold mA at *; omega) (fun i q => by unfold mF at *; omega)
        have h264 : ∀ j, j < 380 → τ40.1 264 j = σ.1 262 j := fun j hj => by
          rw [hr40.2.1.1 264 (by omega) (by omega) j]
          have := hr30.2.2.2.1 j hj
          rw [Nat.zero_add] at this
          rw [this]; exact zput_k _ _ _ _ _ (by omega)
        have h266 : ∀ j, τ40.1 266 j = σ.1 266 j := fun j => by
          rw [hr40.2.1.1 266 (by omega) (by omega) j, ht.1 266 (by omega) (by omega) j]; exact zput_k _ _ _ _ _ (by omega)
        have h65 : τ40.1 261 5 = σ.1 261 5 := by
          rw [hr40.2.1.2.1 5 (by omega), ht.2.1 5 (fun q => q)]; exact zput_i _ _ _ _ _ (by omega)
        have h66 : τ43.1 261 6 = 0 := by
          rw [hr43.2.1.2.1 6 (by omega), hr40.2.1.2.1 6 (by omega), ht.2.1 6 (fun q => q)]; exact (zput_s _ _ _ _).trans (th2_0 hw ⟨hw, hw2⟩)
        exact ⟨hz43, m3, mfr_R hr43.2.1 (by omega) hr40.2.2.1, MPu_to hr43.2.2 h65 h266 h264, h66⟩
set_option maxRecDepth 20000 in
set_option maxHeartbeats 2000000 in
theorem sX10_takeBack_t1 {l : Launch} {w : zW} (hfl : l.stackTraces = false) {σ : zS} {D : zBk} {x : Int} (hz : zOK σ) (hW : WF D) (hR : Rel D (σ.1 262)) (hx : zr x) (hw : ¬ (0 ≤ x ∧ x < D 12 0)) : Sp l w mX10_takeBack 13 0 [zf 10 261, zi x] σ (zqv (some (zi 0)) (fun τ => zOK τ ∧ QP D σ τ ∧ τ.1 261 6 = 1)) := by
  obtain ⟨Q, hQ⟩ : ∃ Q : zQ, Q = (zqv (some (zi 0)) (fun τ => zOK τ ∧ QP D σ τ ∧ τ.1 261 6 = 1)) := ⟨_, rfl⟩
  rw [← hQ]
  refine zx_enter hfl (by decide) rfl 1 rfl ?_
  show zX l w mX10_takeBack (zMQ w 13 0 Q) 0 [zf 10 261, zi x, zu] [] 0 σ
  have hP : 0 ≤ D 1 0 ∧ D 1 0 ≤ 8 := hW.1.1
  have hM : 0 ≤ D 1 7 ∧ D 1 7 ≤ 8 := hW.1.2.1
  have hE : 0 ≤ D 1 10 ∧ D 1 10 ≤ 12 := hW.1.2.2.1
  have hK : 0 ≤ D 12 0 ∧ D 12 0 ≤ 40 := hW.1.2.2.2
  have r0 : σ.1 262 0 = D 1 0 := hR.1.1
  have r1 : σ.1 262 1 = D 1 7 := hR.1.2.1
  have r2 : σ.1 262 2 = D 1 10 := hR.1.2.2.1
  have r3 : σ.1 262 3 = D 12 0 := hR.1.2.2.2
  have ex : 0 ≤ x → x = ((x.toNat : Nat) : Int) := fun q => by omega
  have hbx : 0 ≤ x ∧ x < D 12 0 → (D 18 x.toNat = 0 ∨ D 18 x.toNat = 1) := fun q => (hW.2.2.2.2.1 x.toNat (by omega)).2.2.2.2
  refine zx_aloadN dX10_takeBack_0 rfl rfl ?_
  refine zx_iloadN dX10_takeBack_1 rfl rfl ?_
  refine zy_cv [zi x] (sX10_isClue (D := D) hfl hz (by first | assumption | omega) (by first | assumption | (refine Rel_put (by decide) ?_; assumption) | (refine Rel_put (by decide) (Rel_put (by decide) ?_); assumption) | (refine Rel_put (by decide) (Rel_put (by decide) (Rel_put (by decide) ?_)); assumption)) (by first | exact hz _ _ | assumption | exact zr_b _ | exact zcmp_r _ _ | (unfold zr at *; omega))) dX10_takeBack_2 (by decide) rfl cw_RX10_205 okX10_isClue rfl (Nat.le_of_ble_eq_true rfl) ⟨Nat.le_of_ble_eq_true rfl, Nat.le_of_ble_eq_true rfl, Nat.le_of_ble_eq_true rfl, Nat.le_of_ble_eq_true rfl⟩ ?_
  refine zy_istoreN [zf 10 261, zi x, zi (zb (0 ≤ x ∧ x < D 12 0))] dX10_takeBack_5 rfl (Nat.le_of_ble_eq_true rfl) (Nat.le_of_ble_eq_true rfl) rfl rfl ?_
  refine zx_aloadN dX10_takeBack_6 rfl rfl ?_
  refine zx_aloadN dX10_takeBack_7 rfl rfl ?_
  refine zx_iloadN dX10_takeBack_8 rfl rfl ?_
  refine zx_iloadN dX10_takeBack_9 rfl rfl ?_
  refine zx_if_eq (tgt := 27) (by first | exact hz _ _ | assumption | exact zr_b _ | exact zcmp_r _ _ | (unfold zr at *; omega)) dX10_takeBack_10 (by decide) (fun h10 => ?_) (fun h10 => ?_)
  · have h10 := zb_0.mp h10
    refine zx_iconst dX10_takeBack_27 ?_
    refine zy_top (b := zb ((0 ≤ x ∧ x < D 12 0) ∧ D 18 x.toNat = 1)) (by first | exact (zb_t (by exact ⟨by assumption, by assumption⟩)).symm | exact (zb_f (fun q => absurd q.1 (by assumption))).symm | exact (zb_f (fun q => absurd q.2 (by assumption))).symm) ?_
    refine zy_cv [zi (zb (0 ≤ x ∧ x < D 12 0)), zi (zb ((0 ≤ x ∧ x < D 12 0) ∧ D 18 x.toNat = 1))] (sX10_passesBoth (A := (0 ≤ x ∧ x < D 12 0)) (B := ((0 ≤ x ∧ x < D 12 0) ∧ D 18 x.toNat = 1)) hfl hz ) dX10_takeBack_28 (by decide) rfl cw_RX10_406 okX10_passesBoth rfl (Nat.le_of_ble_eq_true rfl) ⟨Nat.le_of_ble_eq_true rfl, Nat.le_of_ble_eq_true rfl, Nat.le_of_ble_eq_true rfl, Nat.le_of_ble_eq_true rfl⟩ ?_
    refine zy_cv [zi (zb ((0 ≤ x ∧ x < D 12 0) ∧ ((0 ≤ x ∧ x < D 12 0) ∧ D 18 x.toNat = 1)))] (sX10_tried_f (A := ((0 ≤ x ∧ x < D 12 0) ∧ ((0 ≤ x ∧ x < D 12 0) ∧ D 18 x.toNat = 1))) hfl (zOK_put hz (th2_r _ _)) (fun q => hw q.1)) dX10_takeBack_31 (by decide) rfl cw_RX10_449 okX10_tried rfl (Nat.le_of_ble_eq_true rfl) ⟨Nat.le_of_ble_eq_true rfl, Nat.le_of_ble_eq_true rfl, Nat.le_of_ble_eq_true rfl, Nat.le_of_ble_eq_true rfl⟩ ?_
    refine zx_if_eq (tgt := 50) (by first | exact hz _ _ | assumption | exact zr_b _ | exact zcmp_r _ _ | (unfold zr at *; omega)) dX10_takeBack_34 (by decide) (fun h34 => ?_) (fun h34 => ?_)
    · have h34 := zb_0.mp h34
      refine zx_iconst dX10_takeBack_50 ?_
      refine zx_iret rfl rfl dX10_takeBack_51 ?_
      rw [hQ]
      refine ⟨congrArg (fun z : Int => (Sum.inl (some (zi z)) : Option zV ⊕ String)) ?_, ?_⟩
      · rfl
      exact ⟨(zOK_put hz (th2_r _ _)), QP_th hR, (zput_s _ _ _ _).trans (th2_1 hw)⟩
    · have h34 := zb_n.mp h34
      exfalso; first | exact hw (by assumption) | (have q : (0 ≤ x ∧ x < D 12 0) ∧ ((0 ≤ x ∧ x < D 12 0) ∧ D 18 x.toNat = 1) := (by assumption); first | exact hw q.1 | exact hw2 q.2.2)
  · have h10 := zb_n.mp h10
    refine zx_aloadN dX10_takeBack_13 rfl rfl ?_
    refine zx_iloadN dX10_takeBack_14 rfl rfl ?_
    refine zy_top (b := ((x.toNat : Nat) : Int)) (by omega) ?_
    refine zx_iconst dX10_takeBack_15 ?_
    refine zy_cv [zi ((x.toNat : Nat) : Int), zi 5] (sX10_of (D := D) (c := x.toNat) (o := 5) hfl hz (by first | assumption | omega) (by first | assumption | (refine Rel_put (by decide) ?_; assumption) | (refine Rel_put (by decide) (Rel_put (by decide) ?_); assumption) | (refine Rel_put (by decide) (Rel_put (by decide) (Rel_put (by decide) ?_)); assumption)) (by first | assumption | omega) (by first | assumption | omega)) dX10_takeBack_16 (by decide) rfl cw_RX10_102 okX10_of rfl (Nat.le_of_ble_eq_true rfl) ⟨Nat.le_of_ble_eq_true rfl, Nat.le_of_ble_eq_true rfl, Nat.le_of_ble_eq_true rfl, Nat.le_of_ble_eq_true rfl⟩ ?_
    refine zy_top (b := D 18 x.toNat) rfl ?_
    have hz18 : zr (D 18 x.toNat) := by have := hbx (by omega); unfold zr; omega
    refine zx_iconst dX10_takeBack_19 ?_
    refine zx_icmp_ne (tgt := 27) (by first | exact hz _ _ | assumption | exact zr_b _ | exact zcmp_r _ _ | (unfold zr at *; omega)) (by first | exact hz _ _ | assumption | exact zr_b _ | exact zcmp_r _ _ | (unfold zr at *; omega)) dX10_takeBack_20 (by decide) (fun h20 => ?_) (fun h20 => ?_)
    · refine zx_iconst dX10_takeBack_27 ?_
      refine zy_top (b := zb ((0 ≤ x ∧ x < D 12 0) ∧ D 18 x.toNat = 1)) (by first | exact (zb_t (by exact ⟨by assumption, by assumption⟩)).symm | exact (zb_f (fun q => absurd q.1 (by assumption))).symm | exact (zb_f (fun q => absurd q.2 (by assumption))).symm) ?_
      refine zy_cv [zi (zb (0 ≤ x ∧ x < D 12 0)), zi (zb ((0 ≤ x ∧ x < D 12 0) ∧ D 18 x.toNat = 1))] (sX10_passesBoth (A := (0 ≤ x ∧ x < D 12 0)) (B := ((0 ≤ x ∧ x < D 12 0) ∧ D 18 x.toNat = 1)) hfl hz ) dX10_takeBack_28 (by decide) rfl cw_RX10_406 okX10_passesBoth rfl (Nat.le_of_ble_eq_true rfl) ⟨Nat.le_of_ble_eq_true rfl, Nat.le_of_ble_eq_true rfl, Nat.le_of_ble_eq_true rfl, Nat.le_of_ble_eq_true rfl⟩ ?_
      refine zy_cv [zi (zb ((0 ≤ x ∧ x < D 12 0) ∧ ((0 ≤ x ∧ x < D 12 0) ∧ D 18 x.toNat = 1)))] (sX10_tried_f (A := ((0 ≤ x ∧ x < D 12 0) ∧ ((0 ≤ x ∧ x < D 12 0) ∧ D 18 x.toNat = 1))) hfl (zOK_put hz (th2_r _ _)) (fun q => hw q.1)) dX10_takeBack_31 (by decide) rfl cw_RX10_449 okX10_tried rfl (Nat.le_of_ble_eq_true rfl) ⟨Nat.le_of_ble_eq_true rfl, Nat.le_of_ble_eq_true rfl, Nat.le_of_ble_eq_true rfl, Nat.le_of_ble_eq_true rfl⟩ ?_
      refine zx_if_eq (tgt := 50) (by first | exact hz _ _ | assumption | exact zr_b _ | exact zcmp_r _ _ | (unfold zr at *; omega)) dX10_takeBack_34 (by decide) (fun h34 => ?_) (fun h34 => ?_)
      · have h34 := zb_0.mp h34
        refine zx_iconst dX10_takeBack_50 ?_
        refine zx_iret rfl rfl dX10_takeBack_51 ?_
        rw [hQ]
        refine ⟨congrArg (fun z : Int => (Sum.inl (some (zi z)) : Option zV ⊕ String)) ?_, ?_⟩
        · rfl
        exact ⟨(zOK_put hz (th2_r _ _)), QP_th hR, (zput_s _ _ _ _).trans (th2_1 hw)⟩
      · have h34 := zb_n.mp h34
        exfalso; first | exact hw (by assumption) | (have q : (0 ≤ x ∧ x < D 12 0) ∧ ((0 ≤ x ∧ x < D 12 0) ∧ D 18 x.toNat = 1) := (by assumption); first | exact hw q.1 | exact hw2 q.2.2)
    · refine zx_iconst dX10_takeBack_23 ?_
      refine zx_goto (tgt := 28) dX10_takeBack_24 (by decide) ?_
      refine zy_top (b := zb ((0 ≤ x ∧ x < D 12 0) ∧ D 18 x.toNat = 1)) (by first | exact (zb_t (by exact ⟨by assumption, by assumption⟩)).symm | exact (zb_f (fun q => absurd q.1 (by assumption))).symm | exact (zb_f (fun q => absurd q.2 (by assumption))).symm) ?_
      refine zy_cv [zi (zb (0 ≤ x ∧ x < D 12 0)), zi (zb ((0 ≤ x ∧ x < D 12 0) ∧ D 18 x.toNat = 1))] (sX10_passesBoth (A := (0 ≤ x ∧ x < D 12 0)) (B := ((0 ≤ x ∧ x < D 12 0) ∧ D 18 x.toNat = 1)) hfl hz ) dX10_takeBack_28 (by decide) rfl cw_RX10_406 okX10_passesBoth rfl (Nat.le_of_ble_eq_true rfl) ⟨Nat.le_of_ble_eq_true rfl, Nat.le_of_ble_eq_true rfl, Nat.le_of_ble_eq_true rfl, Nat.le_of_ble_eq_true rfl⟩ ?_
      refine zy_cv [zi (zb ((0 ≤ x ∧ x < D 12 0) ∧ ((0 ≤ x ∧ x < D 12 0) ∧ D 18 x.toNat = 1)))] (sX10_tried_f (A := ((0 ≤ x ∧ x < D 12 0) ∧ ((0 ≤ x ∧ x < D 12 0) ∧ D 18 x.toNat = 1))) hfl (zOK_put hz (th2_r _ _)) (fun q => hw q.1)) dX10_takeBack_31 (by decide) rfl cw_RX10_449 okX10_tried rfl (Nat.le_of_ble_eq_true rfl) ⟨Nat.le_of_ble_eq_true rfl, Nat.le_of_ble_eq_true rfl, Nat.le_of_ble_eq_true rfl, Nat.le_of_ble_eq_true rfl⟩ ?_
      refine zx_if_eq (tgt := 50) (by first | exact hz _ _ | assumption | exact zr_b _ | exact zcmp_r _ _ | (unfold zr at *; omega)) dX10_takeBack_34 (by decide) (fun h34 => ?_) (fun h34 => ?_)
      · have h34 := zb_0.mp h34
        refine zx_iconst dX10_takeBack_50 ?_
        refine zx_iret rfl rfl dX10_takeBack_51 ?_
        rw [hQ]
        refine ⟨congrArg (fun z : Int => (Sum.inl (some (zi z)) : Option zV ⊕ String)) ?_, ?_⟩
        · rfl
        exact ⟨(zOK_put hz (th2_r _ _)), QP_th hR, (zput_s _ _ _ _).trans (th2_1 hw)⟩
      · have h34 := zb_n.mp h34
        exfalso; first | exact hw (by assumption) | (have q : (0 ≤ x ∧ x < D 12 0) ∧ ((0 ≤ x ∧ x < D 12 0) ∧ D 18 x.toNat = 1) := (by assumption); first | exact hw q.1 | exact hw2 q.2.2)
set_option maxRecDepth 20000 in
set_option maxHeartbeats 2000000 in
theorem sX10_takeBack_t2 {l : Launch} {w : zW} (hfl : l.stackTraces = false) {σ : zS} {D : zBk} {x : Int} (hz : zOK σ) (hW : WF D) (hR : Rel D (σ.1 262)) (hx : zr x) (hw : 0 ≤ x ∧ x < D 12 0) (hw2 : ¬ (D 18 x.toNat = 1)) : Sp l w mX10_takeBack 13 0 [zf 10 261, zi x] σ (zqv (some (zi 0)) (fun τ => zOK τ ∧ QP D σ τ ∧ τ.1 261 6 = 2)) := by
  obtain ⟨Q, hQ⟩ : ∃ Q : zQ, Q = (zqv (some (zi 0)) (fun τ => zOK τ ∧ QP D σ τ ∧ τ.1 261 6 = 2)) := ⟨_, rfl⟩
  rw [← hQ]
  refine zx_enter hfl (by decide) rfl 1 rfl ?_
  show zX l w mX10_takeBack (zMQ w 13 0 Q) 0 [zf 10 261, zi x, zu] [] 0 σ
  have hP : 0 ≤ D 1 0 ∧ D 1 0 ≤ 8 := hW.1.1
  have hM : 0 ≤ D 1 7 ∧ D 1 7 ≤ 8 := hW.1.2.1
  have hE : 0 ≤ D 1 10 ∧ D 1 10 ≤ 12 := hW.1.2.2.1
  have hK : 0 ≤ D 12 0 ∧ D 12 0 ≤ 40 := hW.1.2.2.2
  have r0 : σ.1 262 0 = D 1 0 := hR.1.1
  have r1 : σ.1 262 1 = D 1 7 := hR.1.2.1
  have r2 : σ.1 262 2 = D 1 10 := hR.1.2.2.1
  have r3 : σ.1 262 3 = D 12 0 := hR.1.2.2.2
  have ex : 0 ≤ x → x = ((x.toNat : Nat) : Int) := fun q => by omega
  have hbx : 0 ≤ x ∧ x < D 12 0 → (D 18 x.toNat = 0 ∨ D 18 x.toNat = 1) := fun q => (hW.2.2.2.2.1 x.toNat (by omega)).2.2.2.2
  refine zx_aloadN dX10_takeBack_0 rfl rfl ?_
  refine zx_iloadN dX10_takeBack_1 rfl rfl ?_
  refine zy_cv [zi x] (sX10_isClue (D := D) hfl hz (by first | assumption | omega) (by first | assumption | (refine Rel_put (by decide) ?_; assumption) | (refine Rel_put (by decide) (Rel_put (by decide) ?_); assumption) | (refine Rel_put (by decide) (Rel_put (by decide) (Rel_put (by decide) ?_)); assumption)) (by first | exact hz _ _ | assumption | exact zr_b _ | exact zcmp_r _ _ | (unfold zr at *; omega))) dX10_takeBack_2 (by decide) rfl cw_RX10_205 okX10_isClue rfl (Nat.le_of_ble_eq_true rfl) ⟨Nat.le_of_ble_eq_true rfl, Nat.le_of_ble_eq_true rfl, Nat.le_of_ble_eq_true rfl, Nat.le_of_ble_eq_true rfl⟩ ?_
  refine zy_istoreN [zf 10 261, zi x, zi (zb (0 ≤ x ∧ x < D 12 0))] dX10_takeBack_5 rfl (Nat.le_of_ble_eq_true rfl) (Nat.le_of_ble_eq_true rfl) rfl rfl ?_
  refine zx_aloadN dX10_takeBack_6 rfl rfl ?_
  refine zx_aloadN dX10_takeBack_7 rfl rfl ?_
  refine zx_iloadN dX10_takeBack_8 rfl rfl ?_
  refine zx_iloadN dX10_takeBack_9 rfl rfl ?_
  refine zx_if_eq (tgt := 27) (by first | exact hz _ _ | assumption | exact zr_b _ | exact zcmp_r _ _ | (unfold zr at *; omega)) dX10_takeBack_10 (by decide) (fun h10 => ?_) (fun h10 => ?_)
  · have h10 := zb_0.mp h10
    refine zx_iconst dX10_takeBack_27 ?_
    refine zy_top (b := zb ((0 ≤ x ∧ x < D 12 0) ∧ D 18 x.toNat = 1)) (by first | exact (zb_t (by exact ⟨by assumption, by assumption⟩)).symm | exact (zb_f (fun q => absurd q.1 (by assumption))).symm | exact (zb_f (fun q => absurd q.2 (by assumption))).symm) ?_
    refine zy_cv [zi (zb (0 ≤ x ∧ x < D 12 0)), zi (zb ((0 ≤ x ∧ x < D 12 0) ∧ D 18 x.toNat = 1))] (sX10_passesBoth (A := (0 ≤ x ∧ x < D 12 0)) (B := ((0 ≤ x ∧ x < D 12 0) ∧ D 18 x.toNat = 1)) hfl hz ) dX10_takeBack_28 (by decide) rfl cw_RX10_406 okX10_passesBoth rfl (Nat.le_of_ble_eq_true rfl) ⟨Nat.le_of_ble_eq_true rfl, Nat.le_of_ble_eq_true rfl, Nat.le_of_ble_eq_true rfl, Nat.le_of_ble_eq_true rfl⟩ ?_
    refine zy_cv [zi (zb ((0 ≤ x ∧ x < D 12 0) ∧ ((0 ≤ x ∧ x < D 12 0) ∧ D 18 x.toNat = 1)))] (sX10_tried_f (A := ((0 ≤ x ∧ x < D 12 0) ∧ ((0 ≤ x ∧ x < D 12 0) ∧ D 18 x.toNat = 1))) hfl (zOK_put hz (th2_r _ _)) (fun q => hw2 q.2.2)) dX10_takeBack_31 (by decide) rfl cw_RX10_449 okX10_tried rfl (Nat.le_of_ble_eq_true rfl) ⟨Nat.le_of_ble_eq_true rfl, Nat.le_of_ble_eq_true rfl, Nat.le_of_ble_eq_true rfl, Nat.le_of_ble_eq_true rfl⟩ ?_
    refine zx_if_eq (tgt := 50) (by first | exact hz _ _ | assumption | exact zr_b _ | exact zcmp_r _ _ | (unfold zr at *; omega)) dX10_takeBack_34 (by decide) (fun h34 => ?_) (fun h34 => ?_)
    · have h34 := zb_0.mp h34
      refine zx_iconst dX10_takeBack_50 ?_
      refine zx_iret rfl rfl dX10_takeBack_51 ?_
      rw [hQ]
      refine ⟨congrArg (fun z : Int => (Sum.inl (some (zi z)) : Option zV ⊕ String)) ?_, ?_⟩
      · rfl
      exact ⟨(zOK_put hz (th2_r _ _)), QP_th hR, (zput_s _ _ _ _).trans (th2_2 hw (fun q => hw2 q.2))⟩
    · have h34 := zb_n.mp h34
      exfalso; first | exact hw (by assumption) | (have q : (0 ≤ x ∧ x < D 12 0) ∧ ((0 ≤ x ∧ x < D 12 0) ∧ D 18 x.toNat = 1) := (by assumption); first | exact hw q.1 | exact hw2 q.2.2)
  · have h10 := zb_n.mp h10
    refine zx_aloadN dX10_takeBack_13 rfl rfl ?_
    refine zx_iloadN dX10_takeBack_14 rfl rfl ?_
    refine zy_top (b := ((x.toNat : Nat) : Int)) (by omega) ?_
    refine zx_iconst dX10_takeBack_15 ?_
    refine zy_cv [zi ((x.toNat : Nat) : Int), zi 5] (sX10_of (D := D) (c := x.toNat) (o := 5) hfl hz (by first | assumption | omega) (by first | assumption | (refine Rel_put (by decide) ?_; assumption) | (refine Rel_put (by decide) (Rel_put (by decide) ?_); assumption) | (refine Rel_put (by decide) (Rel_put (by decide) (Rel_put (by decide) ?_)); assumption)) (by first | assumption | omega) (by first | assumption | omega)) dX10_takeBack_16 (by decide) rfl cw_RX10_102 okX10_of rfl (Nat.le_of_ble_eq_true rfl) ⟨Nat.le_of_ble_eq_true rfl, Nat.le_of_ble_eq_true rfl, Nat.le_of_ble_eq_true rfl, Nat.le_of_ble_eq_true rfl⟩ ?_
    refine zy_top (b := D 18 x.toNat) rfl ?_
    have hz18 : zr (D 18 x.toNat) := by have := hbx (by omega); unfold zr; omega
    refine zx_iconst dX10_takeBack_19 ?_
    refine zx_icmp_ne (tgt := 27) (by first | exact hz _ _ | assumption | exact zr_b _ | exact zcmp_r _ _ | (unfold zr at *; omega)) (by first | exact hz _ _ | assumption | exact zr_b _ | exact zcmp_r _ _ | (unfold zr at *; omega)) dX10_takeBack_20 (by decide) (fun h20 => ?_) (fun h20 => ?_)
    · refine zx_iconst dX10_takeBack_27 ?_
      refine zy_top (b := zb ((0 ≤ x ∧ x < D 12 0) ∧ D 18 x.toNat = 1)) (by first | exact (zb_t (by exact ⟨by assumption, by assumption⟩)).symm | exact (zb_f (fun q => absurd q.1 (by assumption))).symm | exact (zb_f (fun q => absurd q.2 (by assumption))).symm) ?_
      refine zy_cv [zi (zb (0 ≤ x ∧ x < D 12 0)), zi (zb ((0 ≤ x ∧ x < D 12 0) ∧ D 18 x.toNat = 1))] (sX10_passesBoth (A := (0 ≤ x ∧ x < D 12 0)) (B := ((0 ≤ x ∧ x < D 12 0) ∧ D 18 x.toNat = 1)) hfl hz ) dX10_takeBack_28 (by decide) rfl cw_RX10_406 okX10_passesBoth rfl (Nat.le_of_ble_eq_true rfl) ⟨Nat.le_of_ble_eq_true rfl, Nat.le_of_ble_eq_true rfl, Nat.le_of_ble_eq_true rfl, Nat.le_of_ble_eq_true rfl⟩ ?_
      refine zy_cv [zi (zb ((0 ≤ x ∧ x < D 12 0) ∧ ((0 ≤ x ∧ x < D 12 0) ∧ D 18 x.toNat = 1)))] (sX10_tried_f (A := ((0 ≤ x ∧ x < D 12 0) ∧ ((0 ≤ x ∧ x < D 12 0) ∧ D 18 x.toNat = 1))) hfl (zOK_put hz (th2_r _ _)) (fun q => hw2 q.2.2)) dX10_takeBack_31 (by decide) rfl cw_RX10_449 okX10_tried rfl (Nat.le_of_ble_eq_true rfl) ⟨Nat.le_of_ble_eq_true rfl, Nat.le_of_ble_eq_true rfl, Nat.le_of_ble_eq_true rfl, Nat.le_of_ble_eq_true rfl⟩ ?_
      refine zx_if_eq (tgt := 50) (by first | exact hz _ _ | assumption | exact zr_b _ | exact zcmp_r _ _ | (unfold zr at *; omega)) dX10_takeBack_34 (by decide) (fun h34 => ?_) (fun h34 => ?_)
      · have h34 := zb_0.mp h34
        refine zx_iconst dX10_takeBack_50 ?_
        refine zx_iret rfl rfl dX10_takeBack_51 ?_
        rw [hQ]
        refine ⟨congrArg (fun z : Int => (Sum.inl (some (zi z)) : Option zV ⊕ String)) ?_, ?_⟩
        · rfl
        exact ⟨(zOK_put hz (th2_r _ _)), QP_th hR, (zput_s _ _ _ _).trans (th2_2 hw (fun q => hw2 q.2))⟩
      · have h34 := zb_n.mp h34
        exfalso; first | exact hw (by assumption) | (have q : (0 ≤ x ∧ x < D 12 0) ∧ ((0 ≤ x ∧ x < D 12 0) ∧ D 18 x.toNat = 1) := (by assumption); first | exact hw q.1 | exact hw2 q.2.2)
    · refine zx_iconst dX10_takeBack_23 ?_
      refine zx_goto (tgt := 28) dX10_takeBack_24 (by decide) ?_
      refine zy_top (b := zb ((0 ≤ x ∧ x < D 12 0) ∧ D 18 x.toNat = 1)) (by first | exact (zb_t (by exact ⟨by assumption, by assumption⟩)).symm | exact (zb_f (fun q => absurd q.1 (by assumption))).symm | exact (zb_f (fun q => absurd q.2 (by assumption))).symm) ?_
      refine zy_cv [zi (zb (0 ≤ x ∧ x < D 12 0)), zi (zb ((0 ≤ x ∧ x < D 12 0) ∧ D 18 x.toNat = 1))] (sX10_passesBoth (A := (0 ≤ x ∧ x < D 12 0)) (B := ((0 ≤ x ∧ x < D 12 0) ∧ D 18 x.toNat = 1)) hfl hz ) dX10_takeBack_28 (by decide) rfl cw_RX10_406 okX10_passesBoth rfl (Nat.le_of_ble_eq_true rfl) ⟨Nat.le_of_ble_eq_true rfl, Nat.le_of_ble_eq_true rfl, Nat.le_of_ble_eq_true rfl, Nat.le_of_ble_eq_true rfl⟩ ?_
      refine zy_cv [zi (zb ((0 ≤ x ∧ x < D 12 0) ∧ ((0 ≤ x ∧ x < D 12 0) ∧ D 18 x.toNat = 1)))] (sX10_tried_f (A := ((0 ≤ x ∧ x < D 12 0) ∧ ((0 ≤ x ∧ x < D 12 0) ∧ D 18 x.toNat = 1))) hfl (zOK_put hz (th2_r _ _)) (fun q => hw2 q.2.2)) dX10_takeBack_31 (by decide) rfl cw_RX10_449 okX10_tried rfl (Nat.le_of_ble_eq_true rfl) ⟨Nat.le_of_ble_eq_true rfl, Nat.le_of_ble_eq_true rfl, Nat.le_of_ble_eq_true rfl, Nat.le_of_ble_eq_true rfl⟩ ?_
      refine zx_if_eq (tgt := 50) (by first | exact hz _ _ | assumption | exact zr_b _ | exact zcmp_r _ _ | (unfold zr at *; omega)) dX10_takeBack_34 (by decide) (fun h34 => ?_) (fun h34 => ?_)
      · have h34 := zb_0.mp h34
        refine zx_iconst dX10_takeBack_50 ?_
        refine zx_iret rfl rfl dX10_takeBack_51 ?_
        rw [hQ]
        refine ⟨congrArg (fun z : Int => (Sum.inl (some (zi z)) : Option zV ⊕ String)) ?_, ?_⟩
        · rfl
        exact ⟨(zOK_put hz (th2_r _ _)), QP_th hR, (zput_s _ _ _ _).trans (th2_2 hw (fun q => hw2 q.2))⟩
      · have h34 := zb_n.mp h34
        exfalso; first | exact hw (by assumption) | (have q : (0 ≤ x ∧ x < D 12 0) ∧ ((0 ≤ x ∧ x < D 12 0) ∧ D 18 x.toNat = 1) := (by assumption); first | exact hw q.1 | exact hw2 q.2.2)
set_option maxRecDepth 20000 in
set_option maxHeartbeats 2000000 in
theorem sX10_takeBack {l : Launch} {w : zW} (hfl : l.stackTraces = false) {σ : zS} {D : zBk} {x : Int} (hz : zOK σ) (hW : WF D) (hR : Rel D (σ.1 262)) (hx : zr x) (hP1 : 1 ≤ D 1 0) (hm5 : 0 ≤ σ.1 261 5 ∧ σ.1 261 5 ≤ 8) (hw : 0 ≤ x ∧ x < D 12 0) (hw2 : D 18 x.toNat = 1) : Sp l w mX10_takeBack 13 0 [zf 10 261, zi x] σ (zqv (some (zi (wS (ov D 18 x.toNat 0) (Ht (ov D 18 x.toNat 0))))) (fun τ => zOK τ ∧ mfr σ τ mA mF ∧ Rel (ov D 18 x.toNat 0) (τ.1 262) ∧ MPu σ τ (σ.1 262) ∧ τ.1 261 6 = 0)) := by
  obtain ⟨Q, hQ⟩ : ∃ Q : zQ, Q = (zqv (some (zi (wS (ov D 18 x.toNat 0) (Ht (ov D 18 x.toNat 0))))) (fun τ => zOK τ ∧ mfr σ τ mA mF ∧ Rel (ov D 18 x.toNat 0) (τ.1 262) ∧ MPu σ τ (σ.1 262) ∧ τ.1 261 6 = 0)) := ⟨_, rfl⟩
  rw [← hQ]
  refine zx_enter hfl (by decide) rfl 1 rfl ?_
  show zX l w mX10_takeBack (zMQ w 13 0 Q) 0 [zf 10 261, zi x, zu] [] 0 σ
  have hP : 0 ≤ D 1 0 ∧ D 1 0 ≤ 8 := hW.1.1
  have hM : 0 ≤ D 1 7 ∧ D 1 7 ≤ 8 := hW.1.2.1
  have hE : 0 ≤ D 1 10 ∧ D 1 10 ≤ 12 := hW.1.2.2.1
  have hK : 0 ≤ D 12 0 ∧ D 12 0 ≤ 40 := hW.1.2.2.2
  have r0 : σ.1 262 0 = D 1 0 := hR.1.1
  have r1 : σ.1 262 1 = D 1 7 := hR.1.2.1
  have r2 : σ.1 262 2 = D 1 10 := hR.1.2.2.1
  have r3 : σ.1 262 3 = D 12 0 := hR.1.2.2.2
  have ex : 0 ≤ x → x = ((x.toNat : Nat) : Int) := fun q => by omega
  have hbx : 0 ≤ x ∧ x < D 12 0 → (D 18 x.toNat = 0 ∨ D 18 x.toNat = 1) := fun q => (hW.2.2.2.2.1 x.toNat (by omega)).2.2.2.2
  refine zx_aloadN dX10_takeBack_0 rfl rfl ?_
  refine zx_iloadN dX10_takeBack_1 rfl rfl ?_
  refine zy_cv [zi x] (sX10_isClue (D := D) hfl hz (by first | assumption | omega) (by first | assumption | (refine Rel_put (by decide) ?_; assumption) | (refine Rel_put (by decide) (Rel_put (by decide) ?_); assumption) | (refine Rel_put (by decide) (Rel_put (by decide) (Rel_put (by decide) ?_)); assumption)) (by first | exact hz _ _ | assumption | exact zr_b _ | exact zcmp_r _ _ | (unfold zr at *; omega))) dX10_takeBack_2 (by decide) rfl cw_RX10_205 okX10_isClue rfl (Nat.le_of_ble_eq_true rfl) ⟨Nat.le_of_ble_eq_true rfl, Nat.le_of_ble_eq_true rfl, Nat.le_of_ble_eq_true rfl, Nat.le_of_ble_eq_true rfl⟩ ?_
  refine zy_istoreN [zf 10 261, zi x, zi (zb (0 ≤ x ∧ x < D 12 0))] dX10_takeBack_5 rfl (Nat.le_of_ble_eq_true rfl) (Nat.le_of_ble_eq_true rfl) rfl rfl ?_
  refine zx_aloadN dX10_takeBack_6 rfl rfl ?_
  refine zx_aloadN dX10_takeBack_7 rfl rfl ?_
  refine zx_iloadN dX10_takeBack_8 rfl rfl ?_
  refine zx_iloadN dX10_takeBack_9 rfl rfl ?_
  refine zx_if_eq (tgt := 27) (by first | exact hz _ _ | assumption | exact zr_b _ | exact zcmp_r _ _ | (unfold zr at *; omega)) dX10_takeBack_10 (by decide) (fun h10 => ?_) (fun h10 => ?_)
  · have h10 := zb_0.mp h10
    refine zx_iconst dX10_takeBack_27 ?_
    refine zy_top (b := zb ((0 ≤ x ∧ x < D 12 0) ∧ D 18 x.toNat = 1)) (by first | exact (zb_t (by exact ⟨by assumption, by assumption⟩)).symm | exact (zb_f (fun q => absurd q.1 (by assumption))).symm | exact (zb_f (fun q => absurd q.2 (by assumption))).symm) ?_
    refine zy_cv [zi (zb (0 ≤ x ∧ x < D 12 0)), zi (zb ((0 ≤ x ∧ x < D 12 0) ∧ D 18 x.toNat = 1))] (sX10_passesBoth (A := (0 ≤ x ∧ x < D 12 0)) (B := ((0 ≤ x ∧ x < D 12 0) ∧ D 18 x.toNat = 1)) hfl hz ) dX10_takeBack_28 (by decide) rfl cw_RX10_406 okX10_passesBoth rfl (Nat.le_of_ble_eq_true rfl) ⟨Nat.le_of_ble_eq_true rfl, Nat.le_of_ble_eq_true rfl, Nat.le_of_ble_eq_true rfl, Nat.le_of_ble_eq_true rfl⟩ ?_
    refine zy_cvR [zi (zb ((0 ≤ x ∧ x < D 12 0) ∧ ((0 ≤ x ∧ x < D 12 0) ∧ D 18 x.toNat = 1)))] (sX10_tried (A := ((0 ≤ x ∧ x < D 12 0) ∧ ((0 ≤ x ∧ x < D 12 0) ∧ D 18 x.toNat = 1))) hfl (zOK_put hz (th2_r _ _)) ⟨hw, hw, hw2⟩) dX10_takeBack_31 (by decide) rfl cw_RX10_449 okX10_tried rfl (Nat.le_of_ble_eq_true rfl) ⟨Nat.le_of_ble_eq_true rfl, Nat.le_of_ble_eq_true rfl, Nat.le_of_ble_eq_true rfl, Nat.le_of_ble_eq_true rfl⟩ (fun τ31 hr31 => ?_)
    have hz31 : zOK τ31 := hr31.1
    have hRt : Rel D (τ31.1 262) := mfr_R (mfr_cpo hr31.2 (by decide)) (by decide) (Rel_put (by decide) hR)
    have h5t : 0 ≤ τ31.1 261 5 ∧ τ31.1 261 5 ≤ 8 := by rw [hr31.2.1 261 (by decide), zput_i _ _ _ _ _ (by decide)]; exact hm5
    refine zx_if_eq (tgt := 50) (by first | exact hz31 _ _ | assumption | exact zr_b _ | exact zcmp_r _ _ | (unfold zr at *; omega)) dX10_takeBack_34 (by decide) (fun h34 => ?_) (fun h34 => ?_)
    · have h34 := zb_0.mp h34
      exact absurd (⟨hw, hw, hw2⟩ : (0 ≤ x ∧ x < D 12 0) ∧ ((0 ≤ x ∧ x < D 12 0) ∧ D 18 x.toNat = 1)) (by assumption)
    · have h34 := zb_n.mp h34
      refine zx_aloadN dX10_takeBack_37 rfl rfl ?_
      refine zx_aloadN dX10_takeBack_38 rfl rfl ?_
      refine zx_iloadN dX10_takeBack_39 rfl rfl ?_
      refine zx_iconst dX10_takeBack_40 ?_
      refine zy_cvR [zi x, zi 0] (sX10_asideNow (D := D) hfl hz31 (by first | assumption | omega) hRt (by first | exact hz31 _ _ | assumption | exact zr_b _ | exact zcmp_r _ _ | (unfold zr at *; omega)) (by omega) (by first | assumption | omega) ⟨hw.1, hw.2, by omega⟩) dX10_takeBack_41 (by decide) rfl cw_RX10_378 okX10_asideNow rfl (Nat.le_of_ble_eq_true rfl) ⟨Nat.le_of_ble_eq_true rfl, Nat.le_of_ble_eq_true rfl, Nat.le_of_ble_eq_true rfl, Nat.le_of_ble_eq_true rfl⟩ (fun τ41 hr41 => ?_)
      have hz41 : zOK τ41 := hr41.1
      have h5n : 0 ≤ τ41.1 261 5 ∧ τ41.1 261 5 ≤ 8 := by rw [hr41.2.1.2.1 5 (by omega)]; exact h5t
      refine zy_cvR [zi (zb True)] (sX10_done (A := True) hfl hz41 h5n) dX10_takeBack_44 (by decide) rfl cw_RX10_452 okX10_done rfl (Nat.le_of_ble_eq_true rfl) ⟨Nat.le_of_ble_eq_true rfl, Nat.le_of_ble_eq_true rfl, Nat.le_of_ble_eq_true rfl, Nat.le_of_ble_eq_true rfl⟩ (fun τ44 hr44 => ?_)
      have hz44 : zOK τ44 := hr44.1
      refine zx_goto (tgt := 51) dX10_takeBack_47 (by decide) ?_
      refine zx_iret rfl rfl dX10_takeBack_51 ?_
      rw [hQ]
      refine ⟨congrArg (fun z : Int => (Sum.inl (some (zi z)) : Option zV ⊕ String)) ?_, ?_⟩
      · exact hr41.2.2.2
      have ht : mfr (zput σ 261 6 (th2 (0 ≤ x ∧ x < D 12 0) ((0 ≤ x ∧ x < D 12 0) ∧ D 18 x.toNat = 1))) τ31 (fun k => k = 264) (fun _ => False) := mfr_cpo hr31.2 (by decide)
      have mB : mfr σ (zput σ 261 6 (th2 (0 ≤ x ∧ x < D 12 0) ((0 ≤ x ∧ x < D 12 0) ∧ D 18 x.toNat = 1))) (fun _ => False) (fun i => i = 6) := mfr_mo (mfr_put261 (mfr_rf σ (fun _ => False) (fun _ => False))) (fun k q => q) (fun i q => by rcases q with q | q; exact absurd q id; exact q)
      have m1 : mfr σ τ31 mA mF := mfr_tr mB ht (fun k q => by rcases q with q | q; exact absurd q id; exact Or.inr (Or.inl q)) (fun i q => by rcases q with q | q; exact Or.inr (Or.inl q); exact absurd q id)
      have m2 : mfr σ τ41 mA mF := mfr_tr m1 hr41.2.1 (fun k q => by unfold mA at *; omega) (fun i q => by unfold mF at *; omega)
      have m3 : mfr σ τ44 mA mF := mfr_tr m2 hr44.2.1 (fun k q => by unfold mA at *; omega) (fun i q => by unfold mF at *; omega)
      have h264 : ∀ j, j < 380 → τ41.1 264 j = σ.1 262 j := fun j hj => by
        rw [hr41.2.1.1 264 (by omega) (by omega) j]
        have := hr31.2.2.2.1 j hj
        rw [Nat.zero_add] at this
        rw [this]; exact zput_k _ _ _ _ _ (by omega)
      have h266 : ∀ j, τ41.1 266 j = σ.1 266 j := fun j => by
        rw [hr41.2.1.1 266 (by omega) (by omega) j, ht.1 266 (by omega) (by omega) j]; exact zput_k _ _ _ _ _ (by omega)
      have h65 : τ41.1 261 5 = σ.1 261 5 := by
        rw [hr41.2.1.2.1 5 (by omega), ht.2.1 5 (fun q => q)]; exact zput_i _ _ _ _ _ (by omega)
      have h66 : τ44.1 261 6 = 0 := by
        rw [hr44.2.1.2.1 6 (by omega), hr41.2.1.2.1 6 (by omega), ht.2.1 6 (fun q => q)]; exact (zput_s _ _ _ _).trans (th2_0 hw ⟨hw, hw2⟩)
      exact ⟨hz44, m3, mfr_R hr44.2.1 (by omega) hr41.2.2.1, MPu_to hr44.2.2 h65 h266 h264, h66⟩
  · have h10 := zb_n.mp h10
    refine zx_aloadN dX10_takeBack_13 rfl rfl ?_
    refine zx_iloadN dX10_takeBack_14 rfl rfl ?_
    refine zy_top (b := ((x.toNat : Nat) : Int)) (by omega) ?_
    refine zx_iconst dX10_takeBack_15 ?_
    refine zy_cv [zi ((x.toNat : Nat) : Int), zi 5] (sX10_of (D := D) (c := x.toNat) (o := 5) hfl hz (by first | assumption | omega) (by first | assumption | (refine Rel_put (by decide) ?_; assumption) | (refine Rel_put (by decide) (Rel_put (by decide) ?_); assumption) | (refine Rel_put (by decide) (Rel_put (by decide) (Rel_put (by decide) ?_)); assumption)) (by first | assumption | omega) (by first | assumption | omega)) dX10_takeBack_16 (by decide) rfl cw_RX10_102 okX10_of rfl (Nat.le_of_ble_eq_true rfl) ⟨Nat.le_of_ble_eq_true rfl, Nat.le_of_ble_eq_true rfl, Nat.le_of_ble_eq_true rfl, Nat.le_of_ble_eq_true rfl⟩ ?_
    refine zy_top (b := D 18 x.toNat) rfl ?_
    have hz18 : zr (D 18 x.toNat) := by have := hbx (by omega); unfold zr; omega
    refine zx_iconst dX10_takeBack_19 ?_
    refine zx_icmp_ne (tgt := 27) (by first | exact hz _ _ | assumption | exact zr_b _ | exact zcmp_r _ _ | (unfold zr at *; omega)) (by first | exact hz _ _ | assumption | exact zr_b _ | exact zcmp_r _ _ | (unfold zr at *; omega)) dX10_takeBack_20 (by decide) (fun h20 => ?_) (fun h20 => ?_)
    · refine zx_iconst dX10_takeBack_27 ?_
      refine zy_top (b := zb ((0 ≤ x ∧ x < D 12 0) ∧ D 18 x.toNat = 1)) (by first | exact (zb_t (by exact ⟨by assumption, by assumption⟩)).symm | exact (zb_f (fun q => absurd q.1 (by assumption))).symm | exact (zb_f (fun q => absurd q.2 (by assumption))).symm) ?_
      refine zy_cv [zi (zb (0 ≤ x ∧ x < D 12 0)), zi (zb ((0 ≤ x ∧ x < D 12 0) ∧ D 18 x.toNat = 1))] (sX10_passesBoth (A := (0 ≤ x ∧ x < D 12 0)) (B := ((0 ≤ x ∧ x < D 12 0) ∧ D 18 x.toNat = 1)) hfl hz ) dX10_takeBack_28 (by decide) rfl cw_RX10_406 okX10_passesBoth rfl (Nat.le_of_ble_eq_true rfl) ⟨Nat.le_of_ble_eq_true rfl, Nat.le_of_ble_eq_true rfl, Nat.le_of_ble_eq_true rfl, Nat.le_of_ble_eq_true rfl⟩ ?_
      refine zy_cvR [zi (zb ((0 ≤ x ∧ x < D 12 0) ∧ ((0 ≤ x ∧ x < D 12 0) ∧ D 18 x.toNat = 1)))] (sX10_tried (A := ((0 ≤ x ∧ x < D 12 0) ∧ ((0 ≤ x ∧ x < D 12 0) ∧ D 18 x.toNat = 1))) hfl (zOK_put hz (th2_r _ _)) ⟨hw, hw, hw2⟩) dX10_takeBack_31 (by decide) rfl cw_RX10_449 okX10_tried rfl (Nat.le_of_ble_eq_true rfl) ⟨Nat.le_of_ble_eq_true rfl, Nat.le_of_ble_eq_true rfl, Nat.le_of_ble_eq_true rfl, Nat.le_of_ble_eq_true rfl⟩ (fun τ31 hr31 => ?_)
      have hz31 : zOK τ31 := hr31.1
      have hRt : Rel D (τ31.1 262) := mfr_R (mfr_cpo hr31.2 (by decide)) (by decide) (Rel_put (by decide) hR)
      have h5t : 0 ≤ τ31.1 261 5 ∧ τ31.1 261 5 ≤ 8 := by rw [hr31.2.1 261 (by decide), zput_i _ _ _ _ _ (by decide)]; exact hm5
      refine zx_if_eq (tgt := 50) (by first | exact hz31 _ _ | assumption | exact zr_b _ | exact zcmp_r _ _ | (unfold zr at *; omega)) dX10_takeBack_34 (by decide) (fun h34 => ?_) (fun h34 => ?_)
      · have h34 := zb_0.mp h34
        exact absurd (⟨hw, hw, hw2⟩ : (0 ≤ x ∧ x < D 12 0) ∧ ((0 ≤ x ∧ x < D 12 0) ∧ D 18 x.toNat = 1)) (by assumption)
      · have h34 := zb_n.mp h34
        refine zx_aloadN dX10_takeBack_37 rfl rfl ?_
        refine zx_aloadN dX10_takeBack_38 rfl rfl ?_
        refine zx_iloadN dX10_takeBack_39 rfl rfl ?_
        refine zx_iconst dX10_takeBack_40 ?_
        refine zy_cvR [zi x, zi 0] (sX10_asideNow (D := D) hfl hz31 (by first | assumption | omega) hRt (by first | exact hz31 _ _ | assumption | exact zr_b _ | exact zcmp_r _ _ | (unfold zr at *; omega)) (by omega) (by first | assumption | omega) ⟨hw.1, hw.2, by omega⟩) dX10_takeBack_41 (by decide) rfl cw_RX10_378 okX10_asideNow rfl (Nat.le_of_ble_eq_true rfl) ⟨Nat.le_of_ble_eq_true rfl, Nat.le_of_ble_eq_true rfl, Nat.le_of_ble_eq_true rfl, Nat.le_of_ble_eq_true rfl⟩ (fun τ41 hr41 => ?_)
        have hz41 : zOK τ41 := hr41.1
        have h5n : 0 ≤ τ41.1 261 5 ∧ τ41.1 261 5 ≤ 8 := by rw [hr41.2.1.2.1 5 (by omega)]; exact h5t
        refine zy_cvR [zi (zb True)] (sX10_done (A := True) hfl hz41 h5n) dX10_takeBack_44 (by decide) rfl cw_RX10_452 okX10_done rfl (Nat.le_of_ble_eq_true rfl) ⟨Nat.le_of_ble_eq_true rfl, Nat.le_of_ble_eq_true rfl, Nat.le_of_ble_eq_true rfl, Nat.le_of_ble_eq_true rfl⟩ (fun τ44 hr44 => ?_)
        have hz44 : zOK τ44 := hr44.1
        refine zx_goto (tgt := 51) dX10_takeBack_47 (by decide) ?_
        refine zx_iret rfl rfl dX10_takeBack_51 ?_
        rw [hQ]
        refine ⟨congrArg (fun z : Int => (Sum.inl (some (zi z)) : Option zV ⊕ String)) ?_, ?_⟩
        · exact hr41.2.2.2
        have ht : mfr (zput σ 261 6 (th2 (0 ≤ x ∧ x < D 12 0) ((0 ≤ x ∧ x < D 12 0) ∧ D 18 x.toNat = 1))) τ31 (fun k => k = 264) (fun _ => False) := mfr_cpo hr31.2 (by decide)
        have mB : mfr σ (zput σ 261 6 (th2 (0 ≤ x ∧ x < D 12 0) ((0 ≤ x ∧ x < D 12 0) ∧ D 18 x.toNat = 1))) (fun _ => False) (fun i => i = 6) := mfr_mo (mfr_put261 (mfr_rf σ (fun _ => False) (fun _ => False))) (fun k q => q) (fun i q => by rcases q with q | q; exact absurd q id; exact q)
        have m1 : mfr σ τ31 mA mF := mfr_tr mB ht (fun k q => by rcases q with q | q; exact absurd q id; exact Or.inr (Or.inl q)) (fun i q => by rcases q with q | q; exact Or.inr (Or.inl q); exact absurd q id)
        have m2 : mfr σ τ41 mA mF := mfr_tr m1 hr41.2.1 (fun k q => by unfold mA at *; omega) (fun i q => by unfold mF at *; omega)
        have m3 : mfr σ τ44 mA mF := mfr_tr m2 hr44.2.1 (fun k q => by unfold mA at *; omega) (fun i q => by unfold mF at *; omega)
        have h264 : ∀ j, j < 380 → τ41.1 264 j = σ.1 262 j := fun j hj => by
          rw [hr41.2.1.1 264 (by omega) (by omega) j]
          have := hr31.2.2.2.1 j hj
          rw [Nat.zero_add] at this
          rw [this]; exact zput_k _ _ _ _ _ (by omega)
        have h266 : ∀ j, τ41.1 266 j = σ.1 266 j := fun j => by
          rw [hr41.2.1.1 266 (by omega) (by omega) j, ht.1 266 (by omega) (by omega) j]; exact zput_k _ _ _ _ _ (by omega)
        have h65 : τ41.1 261 5 = σ.1 261 5 := by
          rw [hr41.2.1.2.1 5 (by omega), ht.2.1 5 (fun q => q)]; exact zput_i _ _ _ _ _ (by omega)
        have h66 : τ44.1 261 6 = 0 := by
          rw [hr44.2.1.2.1 6 (by omega), hr41.2.1.2.1 6 (by omega), ht.2.1 6 (fun q => q)]; exact (zput_s _ _ _ _).trans (th2_0 hw ⟨hw, hw2⟩)
        exact ⟨hz44, m3, mfr_R hr44.2.1 (by omega) hr41.2.2.1, MPu_to hr44.2.2 h65 h266 h264, h66⟩
    · refine zx_iconst dX10_takeBack_23 ?_
      refine zx_goto (tgt := 28) dX10_takeBack_24 (by decide) ?_
      refine zy_top (b := zb ((0 ≤ x ∧ x < D 12 0) ∧ D 18 x.toNat = 1)) (by first | exact (zb_t (by exact ⟨by assumption, by assumption⟩)).symm | exact (zb_f (fun q => absurd q.1 (by assumption))).symm | exact (zb_f (fun q => absurd q.2 (by assumption))).symm) ?_
      refine zy_cv [zi (zb (0 ≤ x ∧ x < D 12 0)), zi (zb ((0 ≤ x ∧ x < D 12 0) ∧ D 18 x.toNat = 1))] (sX10_passesBoth (A := (0 ≤ x ∧ x < D 12 0)) (B := ((0 ≤ x ∧ x < D 12 0) ∧ D 18 x.toNat = 1)) hfl hz ) dX10_takeBack_28 (by decide) rfl cw_RX10_406 okX10_passesBoth rfl (Nat.le_of_ble_eq_true rfl) ⟨Nat.le_of_ble_eq_true rfl, Nat.le_of_ble_eq_true rfl, Nat.le_of_ble_eq_true rfl, Nat.le_of_ble_eq_true rfl⟩ ?_
      refine zy_cvR [zi (zb ((0 ≤ x ∧ x < D 12 0) ∧ ((0 ≤ x ∧ x < D 12 0) ∧ D 18 x.toNat = 1)))] (sX10_tried (A := ((0 ≤ x ∧ x < D 12 0) ∧ ((0 ≤ x ∧ x < D 12 0) ∧ D 18 x.toNat = 1))) hfl (zOK_put hz (th2_r _ _)) ⟨hw, hw, hw2⟩) dX10_takeBack_31 (by decide) rfl cw_RX10_449 okX10_tried rfl (Nat.le_of_ble_eq_true rfl) ⟨Nat.le_of_ble_eq_true rfl, Nat.le_of_ble_eq_true rfl, Nat.le_of_ble_eq_true rfl, Nat.le_of_ble_eq_true rfl⟩ (fun τ31 hr31 => ?_)
      have hz31 : zOK τ31 := hr31.1
      have hRt : Rel D (τ31.1 262) := mfr_R (mfr_cpo hr31.2 (by decide)) (by decide) (Rel_put (by decide) hR)
      have h5t : 0 ≤ τ31.1 261 5 ∧ τ31.1 261 5 ≤ 8 := by rw [hr31.2.1 261 (by decide), zput_i _ _ _ _ _ (by decide)]; exact hm5
      refine zx_if_eq (tgt := 50) (by first | exact hz31 _ _ | assumption | exact zr_b _ | exact zcmp_r _ _ | (unfold zr at *; omega)) dX10_takeBack_34 (by decide) (fun h34 => ?_) (fun h34 => ?_)
      · have h34 := zb_0.mp h34
        exact absurd (⟨hw, hw, hw2⟩ : (0 ≤ x ∧ x < D 12 0) ∧ ((0 ≤ x ∧ x < D 12 0) ∧ D 18 x.toNat = 1)) (by assumption)
      · have h34 := zb_n.mp h34
        refine zx_aloadN dX10_takeBack_37 rfl rfl ?_
        refine zx_aloadN dX10_takeBack_38 rfl rfl ?_
        refine zx_iloadN dX10_takeBack_39 rfl rfl ?_
        refine zx_iconst dX10_takeBack_40 ?_
        refine zy_cvR [zi x, zi 0] (sX10_asideNow (D := D) hfl hz31 (by first | assumption | omega) hRt (by first | exact hz31 _ _ | assumption | exact zr_b _ | exact zcmp_r _ _ | (unfold zr at *; omega)) (by omega) (by first | assumption | omega) ⟨hw.1, hw.2, by omega⟩) dX10_takeBack_41 (by decide) rfl cw_RX10_378 okX10_asideNow rfl (Nat.le_of_ble_eq_true rfl) ⟨Nat.le_of_ble_eq_true rfl, Nat.le_of_ble_eq_true rfl, Nat.le_of_ble_eq_true rfl, Nat.le_of_ble_eq_true rfl⟩ (fun τ41 hr41 => ?_)
        have hz41 : zOK τ41 := hr41.1
        have h5n : 0 ≤ τ41.1 261 5 ∧ τ41.1 261 5 ≤ 8 := by rw [hr41.2.1.2.1 5 (by omega)]; exact h5t
        refine zy_cvR [zi (zb True)] (sX10_done (A := True) hfl hz41 h5n) dX10_takeBack_44 (by decide) rfl cw_RX10_452 okX10_done rfl (Nat.le_of_ble_eq_true rfl) ⟨Nat.le_of_ble_eq_true rfl, Nat.le_of_ble_eq_true rfl, Nat.le_of_ble_eq_true rfl, Nat.le_of_ble_eq_true rfl⟩ (fun τ44 hr44 => ?_)
        have hz44 : zOK τ44 := hr44.1
        refine zx_goto (tgt := 51) dX10_takeBack_47 (by decide) ?_
        refine zx_iret rfl rfl dX10_takeBack_51 ?_
        rw [hQ]
        refine ⟨congrArg (fun z : Int => (Sum.inl (some (zi z)) : Option zV ⊕ String)) ?_, ?_⟩
        · exact hr41.2.2.2
        have ht : mfr (zput σ 261 6 (th2 (0 ≤ x ∧ x < D 12 0) ((0 ≤ x ∧ x < D 12 0) ∧ D 18 x.toNat = 1))) τ31 (fun k => k = 264) (fun _ => False) := mfr_cpo hr31.2 (by decide)
        have mB : mfr σ (zput σ 261 6 (th2 (0 ≤ x ∧ x < D 12 0) ((0 ≤ x ∧ x < D 12 0) ∧ D 18 x.toNat = 1))) (fun _ => False) (fun i => i = 6) := mfr_mo (mfr_put261 (mfr_rf σ (fun _ => False) (fun _ => False))) (fun k q => q) (fun i q => by rcases q with q | q; exact absurd q id; exact q)
        have m1 : mfr σ τ31 mA mF := mfr_tr mB ht (fun k q => by rcases q with q | q; exact absurd q id; exact Or.inr (Or.inl q)) (fun i q => by rcases q with q | q; exact Or.inr (Or.inl q); exact absurd q id)
        have m2 : mfr σ τ41 mA mF := mfr_tr m1 hr41.2.1 (fun k q => by unfold mA at *; omega) (fun i q => by unfold mF at *; omega)
        have m3 : mfr σ τ44 mA mF := mfr_tr m2 hr44.2.1 (fun k q => by unfold mA at *; omega) (fun i q => by unfold mF at *; omega)
        have h264 : ∀ j, j < 380 → τ41.1 264 j = σ.1 262 j := fun j hj => by
          rw [hr41.2.1.1 264 (by omega) (by omega) j]
          have := hr31.2.2.2.1 j hj
          rw [Nat.zero_add] at this
          rw [this]; exact zput_k _ _ _ _ _ (by omega)
        have h266 : ∀ j, τ41.1 266 j = σ.1 266 j := fun j => by
          rw [hr41.2.1.1 266 (by omega) (by omega) j, ht.1 266 (by omega) (by omega) j]; exact zput_k _ _ _ _ _ (by omega)
        have h65 : τ41.1 261 5 = σ.1 261 5 := by
          rw [hr41.2.1.2.1 5 (by omega), ht.2.1 5 (fun q => q)]; exact zput_i _ _ _ _ _ (by omega)
        have h66 : τ44.1 261 6 = 0 := by
          rw [hr44.2.1.2.1 6 (by omega), hr41.2.1.2.1 6 (by omega), ht.2.1 6 (fun q => q)]; exact (zput_s _ _ _ _).trans (th2_0 hw ⟨hw, hw2⟩)
        exact ⟨hz44, m3, mfr_R hr44.2.1 (by omega) hr41.2.2.1, MPu_to hr44.2.2 h65 h266 h264, h66⟩
set_option maxRecDepth 20000 in
set_option maxHeartbeats 2000000 in
theorem sX10_setAsideUnexplained {l : Launch} {w : zW} (hfl : l.stackTraces = false) {σ : zS} {D : zBk}  (hz : zOK σ) (hW : WF D) (hR : Rel D (σ.1 262)) (hP1 : 1 ≤ D 1 0) (hm5 : 0 ≤ σ.1 261 5 ∧ σ.1 261 5 ≤ 8) : Sp l w mX10_setAsideUnexplained 12 0 [zf 10 261] σ (zqv (some (zi (zs (fun c => zb (opn D c)) (D 12 0).toNat))) (fun τ => zOK τ ∧ mfr σ τ mA mF ∧ Rel (clB D) (τ.1 262) ∧ MPu σ τ (σ.1 262) ∧ τ.1 261 6 = 0)) := by
  obtain ⟨Q, hQ⟩ : ∃ Q : zQ, Q = (zqv (some (zi (zs (fun c => zb (opn D c)) (D 12 0).toNat))) (fun τ => zOK τ ∧ mfr σ τ mA mF ∧ Rel (clB D) (τ.1 262) ∧ MPu σ τ (σ.1 262) ∧ τ.1 261 6 = 0)) := ⟨_, rfl⟩
  rw [← hQ]
  refine zx_enter hfl (by decide) rfl 0 rfl ?_
  show zX l w mX10_setAsideUnexplained (zMQ w 12 0 Q) 0 [zf 10 261] [] 0 σ
  have hP : 0 ≤ D 1 0 ∧ D 1 0 ≤ 8 := hW.1.1
  have hM : 0 ≤ D 1 7 ∧ D 1 7 ≤ 8 := hW.1.2.1
  have hE : 0 ≤ D 1 10 ∧ D 1 10 ≤ 12 := hW.1.2.2.1
  have hK : 0 ≤ D 12 0 ∧ D 12 0 ≤ 40 := hW.1.2.2.2
  have r0 : σ.1 262 0 = D 1 0 := hR.1.1
  have r1 : σ.1 262 1 = D 1 7 := hR.1.2.1
  have r2 : σ.1 262 2 = D 1 10 := hR.1.2.2.1
  have r3 : σ.1 262 3 = D 12 0 := hR.1.2.2.2
  refine zx_aloadN dX10_setAsideUnexplained_0 rfl rfl ?_
  refine zx_aloadN dX10_setAsideUnexplained_1 rfl rfl ?_
  refine zx_iconst dX10_setAsideUnexplained_2 ?_
  refine zy_top (b := zb True) ((zb_t trivial).symm) ?_
  refine zy_cv [zi (zb True)] (sX10_passes (A := True) hfl hz ) dX10_setAsideUnexplained_3 (by decide) rfl cw_RX10_220 okX10_passes rfl (Nat.le_of_ble_eq_true rfl) ⟨Nat.le_of_ble_eq_true rfl, Nat.le_of_ble_eq_true rfl, Nat.le_of_ble_eq_true rfl, Nat.le_of_ble_eq_true rfl⟩ ?_
  refine zy_cvR [zi (zb True)] (sX10_tried (A := True) hfl (zOK_put hz (zr_b _)) trivial) dX10_setAsideUnexplained_6 (by decide) rfl cw_RX10_449 okX10_tried rfl (Nat.le_of_ble_eq_true rfl) ⟨Nat.le_of_ble_eq_true rfl, Nat.le_of_ble_eq_true rfl, Nat.le_of_ble_eq_true rfl, Nat.le_of_ble_eq_true rfl⟩ (fun τ6 hr6 => ?_)
  have hz6 : zOK τ6 := hr6.1
  have hRt : Rel D (τ6.1 262) := mfr_R (mfr_cpo hr6.2 (by decide)) (by decide) (Rel_put (by decide) hR)
  have h5t : 0 ≤ τ6.1 261 5 ∧ τ6.1 261 5 ≤ 8 := by rw [hr6.2.1 261 (by decide), zput_i _ _ _ _ _ (by decide)]; exact hm5
  refine zx_if_eq (tgt := 23) (by first | exact hz6 _ _ | assumption | exact zr_b _ | exact zcmp_r _ _ | (unfold zr at *; omega)) dX10_setAsideUnexplained_9 (by decide) (fun h9 => ?_) (fun h9 => ?_)
  · have h9 := zb_0.mp h9
    exact absurd trivial (by assumption)
  · have h9 := zb_n.mp h9
    refine zx_aloadN dX10_setAsideUnexplained_12 rfl rfl ?_
    refine zx_aloadN dX10_setAsideUnexplained_13 rfl rfl ?_
    refine zy_cvR [] (sX10_cleanNow (D := D) hfl hz6 (by first | assumption | omega) hRt (by first | assumption | omega)) dX10_setAsideUnexplained_14 (by decide) rfl cw_RX10_459 okX10_cleanNow rfl (Nat.le_of_ble_eq_true rfl) ⟨Nat.le_of_ble_eq_true rfl, Nat.le_of_ble_eq_true rfl, Nat.le_of_ble_eq_true rfl, Nat.le_of_ble_eq_true rfl⟩ (fun τ14 hr14 => ?_)
    have hz14 : zOK τ14 := hr14.1
    have h5n : 0 ≤ τ14.1 261 5 ∧ τ14.1 261 5 ≤ 8 := by rw [hr14.2.1.2.1 5 (by omega)]; exact h5t
    refine zy_cvR [zi (zb True)] (sX10_done (A := True) hfl hz14 h5n) dX10_setAsideUnexplained_17 (by decide) rfl cw_RX10_452 okX10_done rfl (Nat.le_of_ble_eq_true rfl) ⟨Nat.le_of_ble_eq_true rfl, Nat.le_of_ble_eq_true rfl, Nat.le_of_ble_eq_true rfl, Nat.le_of_ble_eq_true rfl⟩ (fun τ17 hr17 => ?_)
    have hz17 : zOK τ17 := hr17.1
    refine zx_goto (tgt := 24) dX10_setAsideUnexplained_20 (by decide) ?_
    refine zx_iret rfl rfl dX10_setAsideUnexplained_24 ?_
    rw [hQ]
    refine ⟨congrArg (fun z : Int => (Sum.inl (some (zi z)) : Option zV ⊕ String)) ?_, ?_⟩
    · exact hr14.2.2.2
    have ht : mfr (zput σ 261 6 (zb (¬ True))) τ6 (fun k => k = 264) (fun _ => False) := mfr_cpo hr6.2 (by decide)
    have mB : mfr σ (zput σ 261 6 (zb (¬ True))) (fun _ => False) (fun i => i = 6) := mfr_mo (mfr_put261 (mfr_rf σ (fun _ => False) (fun _ => False))) (fun k q => q) (fun i q => by rcases q with q | q; exact absurd q id; exact q)
    have m1 : mfr σ τ6 mA mF := mfr_tr mB ht (fun k q => by rcases q with q | q; exact absurd q id; exact Or.inr (Or.inl q)) (fun i q => by rcases q with q | q; exact Or.inr (Or.inl q); exact absurd q id)
    have m2 : mfr σ τ14 mA mF := mfr_tr m1 hr14.2.1 (fun k q => by unfold mA at *; omega) (fun i q => by unfold mF at *; omega)
    have m3 : mfr σ τ17 mA mF := mfr_tr m2 hr17.2.1 (fun k q => by unfold mA at *; omega) (fun i q => by unfold mF at *; omega)
    have h264 : ∀ j, j < 380 → τ14.1 264 j = σ.1 262 j := fun j hj => by
      rw [hr14.2.1.1 264 (by omega) (by omega) j]
      have := hr6.2.2.2.1 j hj
      rw [Nat.zero_add] at this
      rw [this]; exact zput_k _ _ _ _ _ (by omega)
    have h266 : ∀ j, τ14.1 266 j = σ.1 266 j := fun j => by
      rw [hr14.2.1.1 266 (by omega) (by omega) j, ht.1 266 (by omega) (by omega) j]; exact zput_k _ _ _ _ _ (by omega)
    have h65 : τ14.1 261 5 = σ.1 261 5 := by
      rw [hr14.2.1.2.1 5 (by omega), ht.2.1 5 (fun q => q)]; exact zput_i _ _ _ _ _ (by omega)
    have h66 : τ17.1 261 6 = 0 := by
      rw [hr17.2.1.2.1 6 (by omega), hr14.2.1.2.1 6 (by omega), ht.2.1 6 (fun q => q)]; exact (zput_s _ _ _ _).trans (zb_f (fun q => q trivial))
    exact ⟨hz17, m3, mfr_R hr17.2.1 (by omega) hr14.2.2.1, MPu_to hr17.2.2 h65 h266 h264, h66⟩
set_option maxRecDepth 20000 in
set_option maxHeartbeats 2000000 in
theorem sX10_setWeight_t1 {l : Launch} {w : zW} (hfl : l.stackTraces = false) {σ : zS} {D : zBk} {x y : Int} (hz : zOK σ) (hW : WF D) (hR : Rel D (σ.1 262)) (hx : zr x) (hy : zr y) (hw : ¬ (0 ≤ x ∧ x < D 12 0)) : Sp l w mX10_setWeight 3 0 [zf 10 261, zi x, zi y] σ (zqv (some (zi 0)) (fun τ => zOK τ ∧ QP D σ τ ∧ τ.1 261 6 = 1)) := by
  obtain ⟨Q, hQ⟩ : ∃ Q : zQ, Q = (zqv (some (zi 0)) (fun τ => zOK τ ∧ QP D σ τ ∧ τ.1 261 6 = 1)) := ⟨_, rfl⟩
  rw [← hQ]
  refine zx_enter hfl (by decide) rfl 0 rfl ?_
  show zX l w mX10_setWeight (zMQ w 3 0 Q) 0 [zf 10 261, zi x, zi y] [] 0 σ
  have hP : 0 ≤ D 1 0 ∧ D 1 0 ≤ 8 := hW.1.1
  have hM : 0 ≤ D 1 7 ∧ D 1 7 ≤ 8 := hW.1.2.1
  have hE : 0 ≤ D 1 10 ∧ D 1 10 ≤ 12 := hW.1.2.2.1
  have hK : 0 ≤ D 12 0 ∧ D 12 0 ≤ 40 := hW.1.2.2.2
  have r0 : σ.1 262 0 = D 1 0 := hR.1.1
  have r1 : σ.1 262 1 = D 1 7 := hR.1.2.1
  have r2 : σ.1 262 2 = D 1 10 := hR.1.2.2.1
  have r3 : σ.1 262 3 = D 12 0 := hR.1.2.2.2
  refine zx_aloadN dX10_setWeight_0 rfl rfl ?_
  refine zx_aloadN dX10_setWeight_1 rfl rfl ?_
  refine zx_aloadN dX10_setWeight_2 rfl rfl ?_
  refine zx_iloadN dX10_setWeight_3 rfl rfl ?_
  refine zy_cv [zi x] (sX10_isClue (D := D) hfl hz (by first | assumption | omega) (by first | assumption | (refine Rel_put (by decide) ?_; assumption) | (refine Rel_put (by decide) (Rel_put (by decide) ?_); assumption) | (refine Rel_put (by decide) (Rel_put (by decide) (Rel_put (by decide) ?_)); assumption)) (by first | exact hz _ _ | assumption | exact zr_b _ | exact zcmp_r _ _ | (unfold zr at *; omega))) dX10_setWeight_4 (by decide) rfl cw_RX10_205 okX10_isClue rfl (Nat.le_of_ble_eq_true rfl) ⟨Nat.le_of_ble_eq_true rfl, Nat.le_of_ble_eq_true rfl, Nat.le_of_ble_eq_true rfl, Nat.le_of_ble_eq_true rfl⟩ ?_
  refine zx_iloadN dX10_setWeight_7 rfl rfl ?_
  refine zx_i2l (by first | exact hz _ _ | assumption | exact zr_b _ | exact zcmp_r _ _ | (unfold zr at *; omega)) dX10_setWeight_8 ?_
  refine zx_lconst (a := 1) dX10_setWeight_9 rfl ?_
  refine zx_ldc2 (a := 9) dX10_setWeight_10 lk_RX10_447 ?_
  refine zy_cs [zl y, zl 1, zl 9] (sX10_in  hfl hz (by first | exact hz _ _ | assumption | exact zr_b _ | exact zcmp_r _ _ | (unfold zr at *; omega)) (by first | exact hz _ _ | assumption | exact zr_b _ | exact zcmp_r _ _ | (unfold zr at *; omega)) (by first | exact hz _ _ | assumption | exact zr_b _ | exact zcmp_r _ _ | (unfold zr at *; omega))) dX10_setWeight_13 cw_RX10_74 okX10_in rfl (Nat.le_of_ble_eq_true rfl) ⟨Nat.le_of_ble_eq_true rfl, Nat.le_of_ble_eq_true rfl, Nat.le_of_ble_eq_true rfl, Nat.le_of_ble_eq_true rfl⟩ ?_
  refine zy_cv [zi (zb (0 ≤ x ∧ x < D 12 0)), zi (zb (1 ≤ y ∧ y ≤ 9))] (sX10_passesBoth (A := (0 ≤ x ∧ x < D 12 0)) (B := (1 ≤ y ∧ y ≤ 9)) hfl hz ) dX10_setWeight_16 (by decide) rfl cw_RX10_406 okX10_passesBoth rfl (Nat.le_of_ble_eq_true rfl) ⟨Nat.le_of_ble_eq_true rfl, Nat.le_of_ble_eq_true rfl, Nat.le_of_ble_eq_true rfl, Nat.le_of_ble_eq_true rfl⟩ ?_
  refine zy_cv [zi (zb ((0 ≤ x ∧ x < D 12 0) ∧ (1 ≤ y ∧ y ≤ 9)))] (sX10_tried_f (A := ((0 ≤ x ∧ x < D 12 0) ∧ (1 ≤ y ∧ y ≤ 9))) hfl (zOK_put hz (th2_r _ _)) (fun q => hw q.1)) dX10_setWeight_19 (by decide) rfl cw_RX10_449 okX10_tried rfl (Nat.le_of_ble_eq_true rfl) ⟨Nat.le_of_ble_eq_true rfl, Nat.le_of_ble_eq_true rfl, Nat.le_of_ble_eq_true rfl, Nat.le_of_ble_eq_true rfl⟩ ?_
  refine zx_if_eq (tgt := 38) (by first | exact hz _ _ | assumption | exact zr_b _ | exact zcmp_r _ _ | (unfold zr at *; omega)) dX10_setWeight_22 (by decide) (fun h22 => ?_) (fun h22 => ?_)
  · have h22 := zb_0.mp h22
    refine zx_iconst dX10_setWeight_38 ?_
    refine zx_iret rfl rfl dX10_setWeight_39 ?_
    rw [hQ]
    refine ⟨congrArg (fun z : Int => (Sum.inl (some (zi z)) : Option zV ⊕ String)) ?_, ?_⟩
    · rfl
    exact ⟨(zOK_put hz (th2_r _ _)), QP_th hR, (zput_s _ _ _ _).trans (th2_1 hw)⟩
  · have h22 := zb_n.mp h22
    exfalso; first | exact hw (by assumption) | (have q : (0 ≤ x ∧ x < D 12 0) ∧ 1 ≤ y ∧ y ≤ 9 := (by assumption); first | exact hw q.1 | exact hw2 q.2)
set_option maxRecDepth 20000 in
set_option maxHeartbeats 2000000 in
theorem sX10_setWeight_t2 {l : Launch} {w : zW} (hfl : l.stackTraces = false) {σ : zS} {D : zBk} {x y : Int} (hz : zOK σ) (hW : WF D) (hR : Rel D (σ.1 262)) (hx : zr x) (hy : zr y) (hw : 0 ≤ x ∧ x < D 12 0) (hw2 : ¬ (1 ≤ y ∧ y ≤ 9)) : Sp l w mX10_setWeight 3 0 [zf 10 261, zi x, zi y] σ (zqv (some (zi 0)) (fun τ => zOK τ ∧ QP D σ τ ∧ τ.1 261 6 = 2)) := by
  obtain ⟨Q, hQ⟩ : ∃ Q : zQ, Q = (zqv (some (zi 0)) (fun τ => zOK τ ∧ QP D σ τ ∧ τ.1 261 6 = 2)) := ⟨_, rfl⟩
  rw [← hQ]
  refine zx_enter hfl (by decide) rfl 0 rfl ?_
  show zX l w mX10_setWeight (zMQ w 3 0 Q) 0 [zf 10 261, zi x, zi y] [] 0 σ
  have hP : 0 ≤ D 1 0 ∧ D 1 0 ≤ 8 := hW.1.1
  have hM : 0 ≤ D 1 7 ∧ D 1 7 ≤ 8 := hW.1.2.1
  have hE : 0 ≤ D 1 10 ∧ D 1 10 ≤ 12 := hW.1.2.2.1
  have hK : 0 ≤ D 12 0 ∧ D 12 0 ≤ 40 := hW.1.2.2.2
  have r0 : σ.1 262 0 = D 1 0 := hR.1.1
  have r1 : σ.1 262 1 = D 1 7 := hR.1.2.1
  have r2 : σ.1 262 2 = D 1 10 := hR.1.2.2.1
  have r3 : σ.1 262 3 = D 12 0 := hR.1.2.2.2
  refine zx_aloadN dX10_setWeight_0 rfl rfl ?_
  refine zx_aloadN dX10_setWeight_1 rfl rfl ?_
  refine zx_aloadN dX10_setWeight_2 rfl rfl ?_
  refine zx_iloadN dX10_setWeight_3 rfl rfl ?_
  refine zy_cv [zi x] (sX10_isClue (D := D) hfl hz (by first | assumption | omega) (by first | assumption | (refine Rel_put (by decide) ?_; assumption) | (refine Rel_put (by decide) (Rel_put (by decide) ?_); assumption) | (refine Rel_put (by decide) (Rel_put (by decide) (Rel_put (by decide) ?_)); assumption)) (by first | exact hz _ _ | assumption | exact zr_b _ | exact zcmp_r _ _ | (unfold zr at *; omega))) dX10_setWeight_4 (by decide) rfl cw_RX10_205 okX10_isClue rfl (Nat.le_of_ble_eq_true rfl) ⟨Nat.le_of_ble_eq_true rfl, Nat.le_of_ble_eq_true rfl, Nat.le_of_ble_eq_true rfl, Nat.le_of_ble_eq_true rfl⟩ ?_
  refine zx_iloadN dX10_setWeight_7 rfl rfl ?_
  refine zx_i2l (by first | exact hz _ _ | assumption | exact zr_b _ | exact zcmp_r _ _ | (unfold zr at *; omega)) dX10_setWeight_8 ?_
  refine zx_lconst (a := 1) dX10_setWeight_9 rfl ?_
  refine zx_ldc2 (a := 9) dX10_setWeight_10 lk_RX10_447 ?_
  refine zy_cs [zl y, zl 1, zl 9] (sX10_in  hfl hz (by first | exact hz _ _ | assumption | exact zr_b _ | exact zcmp_r _ _ | (unfold zr at *; omega)) (by first | exact hz _ _ | assumption | exact zr_b _ | exact zcmp_r _ _ | (unfold zr at *; omega)) (by first | exact hz _ _ | assumption | exact zr_b _ | exact zcmp_r _ _ | (unfold zr at *; omega))) dX10_setWeight_13 cw_RX10_74 okX10_in rfl (Nat.le_of_ble_eq_true rfl) ⟨Nat.le_of_ble_eq_true rfl, Nat.le_of_ble_eq_true rfl, Nat.le_of_ble_eq_true rfl, Nat.le_of_ble_eq_true rfl⟩ ?_
  refine zy_cv [zi (zb (0 ≤ x ∧ x < D 12 0)), zi (zb (1 ≤ y ∧ y ≤ 9))] (sX10_passesBoth (A := (0 ≤ x ∧ x < D 12 0)) (B := (1 ≤ y ∧ y ≤ 9)) hfl hz ) dX10_setWeight_16 (by decide) rfl cw_RX10_406 okX10_passesBoth rfl (Nat.le_of_ble_eq_true rfl) ⟨Nat.le_of_ble_eq_true rfl, Nat.le_of_ble_eq_true rfl, Nat.le_of_ble_eq_true rfl, Nat.le_of_ble_eq_true rfl⟩ ?_
  refine zy_cv [zi (zb ((0 ≤ x ∧ x < D 12 0) ∧ (1 ≤ y ∧ y ≤ 9)))] (sX10_tried_f (A := ((0 ≤ x ∧ x < D 12 0) ∧ (1 ≤ y ∧ y ≤ 9))) hfl (zOK_put hz (th2_r _ _)) (fun q => hw2 q.2)) dX10_setWeight_19 (by decide) rfl cw_RX10_449 okX10_tried rfl (Nat.le_of_ble_eq_true rfl) ⟨Nat.le_of_ble_eq_true rfl, Nat.le_of_ble_eq_true rfl, Nat.le_of_ble_eq_true rfl, Nat.le_of_ble_eq_true rfl⟩ ?_
  refine zx_if_eq (tgt := 38) (by first | exact hz _ _ | assumption | exact zr_b _ | exact zcmp_r _ _ | (unfold zr at *; omega)) dX10_setWeight_22 (by decide) (fun h22 => ?_) (fun h22 => ?_)
  · have h22 := zb_0.mp h22
    refine zx_iconst dX10_setWeight_38 ?_
    refine zx_iret rfl rfl dX10_setWeight_39 ?_
    rw [hQ]
    refine ⟨congrArg (fun z : Int => (Sum.inl (some (zi z)) : Option zV ⊕ String)) ?_, ?_⟩
    · rfl
    exact ⟨(zOK_put hz (th2_r _ _)), QP_th hR, (zput_s _ _ _ _).trans (th2_2 hw hw2)⟩
  · have h22 := zb_n.mp h22
    exfalso; first | exact hw (by assumption) | (have q : (0 ≤ x ∧ x < D 12 0) ∧ 1 ≤ y ∧ y ≤ 9 := (by assumption); first | exact hw q.1 | exact hw2 q.2)
set_option maxRecDepth 20000 in
set_option maxHeartbeats 2000000 in
theorem sX10_setWeight {l : Launch} {w : zW} (hfl : l.stackTraces = false) {σ : zS} {D : zBk} {x y : Int} (hz : zOK σ) (hW : WF D) (hR : Rel D (σ.1 262)) (hx : zr x) (hy : zr y) (hm5 : 0 ≤ σ.1 261 5 ∧ σ.1 261 5 ≤ 8) (hw : 0 ≤ x ∧ x < D 12 0) (hw2 : 1 ≤ y ∧ y ≤ 9) : Sp l w mX10_setWeight 3 0 [zf 10 261, zi x, zi y] σ (zqv (some (zi (D 16 x.toNat))) (fun τ => zOK τ ∧ mfr σ τ mA mF ∧ Rel (ov D 16 x.toNat y) (τ.1 262) ∧ MPu σ τ (σ.1 262) ∧ τ.1 261 6 = 0)) := by
  obtain ⟨Q, hQ⟩ : ∃ Q : zQ, Q = (zqv (some (zi (D 16 x.toNat))) (fun τ => zOK τ ∧ mfr σ τ mA mF ∧ Rel (ov D 16 x.toNat y) (τ.1 262) ∧ MPu σ τ (σ.1 262) ∧ τ.1 261 6 = 0)) := ⟨_, rfl⟩
  rw [← hQ]
  refine zx_enter hfl (by decide) rfl 0 rfl ?_
  show zX l w mX10_setWeight (zMQ w 3 0 Q) 0 [zf 10 261, zi x, zi y] [] 0 σ
  have hP : 0 ≤ D 1 0 ∧ D 1 0 ≤ 8 := hW.1.1
  have hM : 0 ≤ D 1 7 ∧ D 1 7 ≤ 8 := hW.1.2.1
  have hE : 0 ≤ D 1 10 ∧ D 1 10 ≤ 12 := hW.1.2.2.1
  have hK : 0 ≤ D 12 0 ∧ D 12 0 ≤ 40 := hW.1.2.2.2
  have r0 : σ.1 262 0 = D 1 0 := hR.1.1
  have r1 : σ.1 262 1 = D 1 7 := hR.1.2.1
  have r2 : σ.1 262 2 = D 1 10 := hR.1.2.2.1
  have r3 : σ.1 262 3 = D 12 0 := hR.1.2.2.2
  refine zx_aloadN dX10_setWeight_0 rfl rfl ?_
  refine zx_aloadN dX10_setWeight_1 rfl rfl ?_
  refine zx_aloadN dX10_setWeight_2 rfl rfl ?_
  refine zx_iloadN dX10_setWeight_3 rfl rfl ?_
  refine zy_cv [zi x] (sX10_isClue (D := D) hfl hz (by first | assumption | omega) (by first | assumption | (refine Rel_put (by decide) ?_; assumption) | (refine Rel_put (by decide) (Rel_put (by decide) ?_); assumption) | (refine Rel_put (by decide) (Rel_put (by decide) (Rel_put (by decide) ?_)); assumption)) (by first | exact hz _ _ | assumption | exact zr_b _ | exact zcmp_r _ _ | (unfold zr at *; omega))) dX10_setWeight_4 (by decide) rfl cw_RX10_205 okX10_isClue rfl (Nat.le_of_ble_eq_true rfl) ⟨Nat.le_of_ble_eq_true rfl, Nat.le_of_ble_eq_true rfl, Nat.le_of_ble_eq_true rfl, Nat.le_of_ble_eq_true rfl⟩ ?_
  refine zx_iloadN dX10_setWeight_7 rfl rfl ?_
  refine zx_i2l (by first | exact hz _ _ | assumption | exact zr_b _ | exact zcmp_r _ _ | (unfold zr at *; omega)) dX10_setWeight_8 ?_
  refine zx_lconst (a := 1) dX10_setWeight_9 rfl ?_
  refine zx_ldc2 (a := 9) dX10_setWeight_10 lk_RX10_447 ?_
  refine zy_cs [zl y, zl 1, zl 9] (sX10_in  hfl hz (by first | exact hz _ _ | assumption | exact zr_b _ | exact zcmp_r _ _ | (unfold zr at *; omega)) (by first | exact hz _ _ | assumption | exact zr_b _ | exact zcmp_r _ _ | (unfold zr at *; omega)) (by first | exact hz _ _ | assumption | exact zr_b _ | exact zcmp_r _ _ | (unfold zr at *; omega))) dX10_setWeight_13 cw_RX10_74 okX10_in rfl (Nat.le_of_ble_eq_true rfl) ⟨Nat.le_of_ble_eq_true rfl, Nat.le_of_ble_eq_true rfl, Nat.le_of_ble_eq_true rfl, Nat.le_of_ble_eq_true rfl⟩ ?_
  refine zy_cv [zi (zb (0 ≤ x ∧ x < D 12 0)), zi (zb (1 ≤ y ∧ y ≤ 9))] (sX10_passesBoth (A := (0 ≤ x ∧ x < D 12 0)) (B := (1 ≤ y ∧ y ≤ 9)) hfl hz ) dX10_setWeight_16 (by decide) rfl cw_RX10_406 okX10_passesBoth rfl (Nat.le_of_ble_eq_true rfl) ⟨Nat.le_of_ble_eq_true rfl, Nat.le_of_ble_eq_true rfl, Nat.le_of_ble_eq_true rfl, Nat.le_of_ble_eq_true rfl⟩ ?_
  refine zy_cvR [zi (zb ((0 ≤ x ∧ x < D 12 0) ∧ (1 ≤ y ∧ y ≤ 9)))] (sX10_tried (A := ((0 ≤ x ∧ x < D 12 0) ∧ (1 ≤ y ∧ y ≤ 9))) hfl (zOK_put hz (th2_r _ _)) ⟨hw, hw2⟩) dX10_setWeight_19 (by decide) rfl cw_RX10_449 okX10_tried rfl (Nat.le_of_ble_eq_true rfl) ⟨Nat.le_of_ble_eq_true rfl, Nat.le_of_ble_eq_true rfl, Nat.le_of_ble_eq_true rfl, Nat.le_of_ble_eq_true rfl⟩ (fun τ19 hr19 => ?_)
  have hz19 : zOK τ19 := hr19.1
  have hRt : Rel D (τ19.1 262) := mfr_R (mfr_cpo hr19.2 (by decide)) (by decide) (Rel_put (by decide) hR)
  have h5t : 0 ≤ τ19.1 261 5 ∧ τ19.1 261 5 ≤ 8 := by rw [hr19.2.1 261 (by decide), zput_i _ _ _ _ _ (by decide)]; exact hm5
  refine zx_if_eq (tgt := 38) (by first | exact hz19 _ _ | assumption | exact zr_b _ | exact zcmp_r _ _ | (unfold zr at *; omega)) dX10_setWeight_22 (by decide) (fun h22 => ?_) (fun h22 => ?_)
  · have h22 := zb_0.mp h22
    exact absurd (⟨hw, hw2⟩ : (0 ≤ x ∧ x < D 12 0) ∧ 1 ≤ y ∧ y ≤ 9) (by assumption)
  · have h22 := zb_n.mp h22
    refine zx_aloadN dX10_setWeight_25 rfl rfl ?_
    refine zx_aloadN dX10_setWeight_26 rfl rfl ?_
    refine zx_iloadN dX10_setWeight_27 rfl rfl ?_
    refine zx_iloadN dX10_setWeight_28 rfl rfl ?_
    refine zy_cvR [zi x, zi y] (sX10_weighNow (D := D) hfl hz19 (by first | assumption | omega) hRt (by first | exact hz19 _ _ | assumption | exact zr_b _ | exact zcmp_r _ _ | (unfold zr at *; omega)) (by first | exact hz19 _ _ | assumption | exact zr_b _ | exact zcmp_r _ _ | (unfold zr at *; omega)) (by first | assumption | omega)) dX10_setWeight_29 (by decide) rfl cw_RX10_381 okX10_weighNow rfl (Nat.le_of_ble_eq_true rfl) ⟨Nat.le_of_ble_eq_true rfl, Nat.le_of_ble_eq_true rfl, Nat.le_of_ble_eq_true rfl, Nat.le_of_ble_eq_true rfl⟩ (fun τ29 hr29 => ?_)
    have hz29 : zOK τ29 := hr29.1
    have h5n : 0 ≤ τ29.1 261 5 ∧ τ29.1 261 5 ≤ 8 := by rw [hr29.2.1.2.1 5 (by omega)]; exact h5t
    refine zy_cvR [zi (zb True)] (sX10_done (A := True) hfl hz29 h5n) dX10_setWeight_32 (by decide) rfl cw_RX10_452 okX10_done rfl (Nat.le_of_ble_eq_true rfl) ⟨Nat.le_of_ble_eq_true rfl, Nat.le_of_ble_eq_true rfl, Nat.le_of_ble_eq_true rfl, Nat.le_of_ble_eq_true rfl⟩ (fun τ32 hr32 => ?_)
    have hz32 : zOK τ32 := hr32.1
    refine zx_goto (tgt := 39) dX10_setWeight_35 (by decide) ?_
    refine zx_iret rfl rfl dX10_setWeight_39 ?_
    rw [hQ]
    refine ⟨congrArg (fun z : Int => (Sum.inl (some (zi z)) : Option zV ⊕ String)) ?_, ?_⟩
    · exact hr29.2.2.2
    have ht : mfr (zput σ 261 6 (th2 (0 ≤ x ∧ x < D 12 0) (1 ≤ y ∧ y ≤ 9))) τ19 (fun k => k = 264) (fun _ => False) := mfr_cpo hr19.2 (by decide)
    have mB : mfr σ (zput σ 261 6 (th2 (0 ≤ x ∧ x < D 12 0) (1 ≤ y ∧ y ≤ 9))) (fun _ => False) (fun i => i = 6) := mfr_mo (mfr_put261 (mfr_rf σ (fun _ => False) (fun _ => False))) (fun k q => q) (fun i q => by rcases q with q | q; exact absurd q id; exact q)
    have m1 : mfr σ τ19 mA mF := mfr_tr mB ht (fun k q => by rcases q with q | q; exact absurd q id; exact Or.inr (Or.inl q)) (fun i q => by rcases q with q | q; exact Or.inr (Or.inl q); exact absurd q id)
    have m2 : mfr σ τ29 mA mF := mfr_tr m1 hr29.2.1 (fun k q => by unfold mA at *; omega) (fun i q => by unfold mF at *; omega)
    have m3 : mfr σ τ32 mA mF := mfr_tr m2 hr32.2.1 (fun k q => by unfold mA at *; omega) (fun i q => by unfold mF at *; omega)
    have h264 : ∀ j, j < 380 → τ29.1 264 j = σ.1 262 j := fun j hj => by
      rw [hr29.2.1.1 264 (by omega) (by omega) j]
      have := hr19.2.2.2.1 j hj
      rw [Nat.zero_add] at this
      rw [this]; exact zput_k _ _ _ _ _ (by omega)
    have h266 : ∀ j, τ29.1 266 j = σ.1 266 j := fun j => by
      rw [hr29.2.1.1 266 (by omega) (by omega) j, ht.1 266 (by omega) (by omega) j]; exact zput_k _ _ _ _ _ (by omega)
    have h65 : τ29.1 261 5 = σ.1 261 5 := by
      rw [hr29.2.1.2.1 5 (by omega), ht.2.1 5 (fun q => q)]; exact zput_i _ _ _ _ _ (by omega)
    have h66 : τ32.1 261 6 = 0 := by
      rw [hr32.2.1.2.1 6 (by omega), hr29.2.1.2.1 6 (by omega), ht.2.1 6 (fun q => q)]; exact (zput_s _ _ _ _).trans (th2_0 hw hw2)
    exact ⟨hz32, m3, mfr_R hr32.2.1 (by omega) hr29.2.2.1, MPu_to hr32.2.2 h65 h266 h264, h66⟩
set_option maxRecDepth 20000 in
set_option maxHeartbeats 2000000 in
theorem sX10_transferDevice_t1 {l : Launch} {w : zW} (hfl : l.stackTraces = false) {σ : zS} {D : zBk} {x y u : Int} (hz : zOK σ) (hW : WF D) (hR : Rel D (σ.1 262)) (hx : zr x) (hy : zr y) (hu : zr u) (hw : ¬ ((0 ≤ x ∧ x < D 1 0) ∧ 0 ≤ y ∧ y < D 1 0)) : Sp l w mX10_transferDevice 5 0 [zf 10 261, zi x, zi y, zi u] σ (zqv (some (zi 0)) (fun τ => zOK τ ∧ QP D σ τ ∧ τ.1 261 6 = 1)) := by
  obtain ⟨Q, hQ⟩ : ∃ Q : zQ, Q = (zqv (some (zi 0)) (fun τ => zOK τ ∧ QP D σ τ ∧ τ.1 261 6 = 1)) := ⟨_, rfl⟩
  rw [← hQ]
  refine zx_enter hfl (by decide) rfl 1 rfl ?_
  show zX l w mX10_transferDevice (zMQ w 5 0 Q) 0 [zf 10 261, zi x, zi y, zi u, zu] [] 0 σ
  have hP : 0 ≤ D 1 0 ∧ D 1 0 ≤ 8 := hW.1.1
  have hM : 0 ≤ D 1 7 ∧ D 1 7 ≤ 8 := hW.1.2.1
  have hE : 0 ≤ D 1 10 ∧ D 1 10 ≤ 12 := hW.1.2.2.1
  have hK : 0 ≤ D 12 0 ∧ D 12 0 ≤ 40 := hW.1.2.2.2
  have r0 : σ.1 262 0 = D 1 0 := hR.1.1
  have r1 : σ.1 262 1 = D 1 7 := hR.1.2.1
  have r2 : σ.1 262 2 = D 1 10 := hR.1.2.2.1
  have r3 : σ.1 262 3 = D 12 0 := hR.1.2.2.2
  refine zx_aloadN dX10_transferDevice_0 rfl rfl ?_
  refine zx_iloadN dX10_transferDevice_1 rfl rfl ?_
  refine zy_cv [zi x] (sX10_isPrinter (D := D) hfl hz (by first | assumption | omega) (by first | assumption | (refine Rel_put (by decide) ?_; assumption) | (refine Rel_put (by decide) (Rel_put (by decide) ?_); assumption) | (refine Rel_put (by decide) (Rel_put (by decide) (Rel_put (by decide) ?_)); assumption)) (by first | exact hz _ _ | assumption | exact zr_b _ | exact zcmp_r _ _ | (unfold zr at *; omega))) dX10_transferDevice_2 (by decide) rfl cw_RX10_400 okX10_isPrinter rfl (Nat.le_of_ble_eq_true rfl) ⟨Nat.le_of_ble_eq_true rfl, Nat.le_of_ble_eq_true rfl, Nat.le_of_ble_eq_true rfl, Nat.le_of_ble_eq_true rfl⟩ ?_
  refine zx_if_eq (tgt := 20) (by first | exact hz _ _ | assumption | exact zr_b _ | exact zcmp_r _ _ | (unfold zr at *; omega)) dX10_transferDevice_5 (by decide) (fun h5 => ?_) (fun h5 => ?_)
  · have h5 := zb_0.mp h5
    refine zx_iconst dX10_transferDevice_20 ?_
    refine zy_top (b := zb ((0 ≤ x ∧ x < D 1 0) ∧ 0 ≤ y ∧ y < D 1 0)) (by first | exact (zb_t (by exact ⟨by assumption, by assumption⟩)).symm | exact (zb_f (fun q => absurd q.1 (by assumption))).symm | exact (zb_f (fun q => absurd q.2 (by assumption))).symm) ?_
    refine zy_istore [zf 10 261, zi x, zi y, zi u, zi (zb ((0 ≤ x ∧ x < D 1 0) ∧ 0 ≤ y ∧ y < D 1 0))] dX10_transferDevice_21 (Nat.le_of_ble_eq_true rfl) (Nat.le_of_ble_eq_true rfl) rfl rfl ?_
    refine zx_aloadN dX10_transferDevice_23 rfl rfl ?_
    refine zx_aloadN dX10_transferDevice_24 rfl rfl ?_
    refine zx_iload dX10_transferDevice_25 rfl ?_
    refine zx_iloadN dX10_transferDevice_27 rfl rfl ?_
    refine zx_iloadN dX10_transferDevice_28 rfl rfl ?_
    refine zx_icmp_eq (tgt := 36) (by first | exact hz _ _ | assumption | exact zr_b _ | exact zcmp_r _ _ | (unfold zr at *; omega)) (by first | exact hz _ _ | assumption | exact zr_b _ | exact zcmp_r _ _ | (unfold zr at *; omega)) dX10_transferDevice_29 (by decide) (fun h29 => ?_) (fun h29 => ?_)
    · refine zx_iconst dX10_transferDevice_36 ?_
      refine zy_top (b := zb (¬ x = y)) (by first | exact (zb_t (by assumption)).symm | exact (zb_t (by omega)).symm | exact (zb_f (by omega)).symm | exact (zb_f (by assumption)).symm | exact (zb_f (fun q => q (by assumption))).symm) ?_
      refine zx_iload dX10_transferDevice_37 rfl ?_
      refine zx_if_eq (tgt := 55) (by first | exact hz _ _ | assumption | exact zr_b _ | exact zcmp_r _ _ | (unfold zr at *; omega)) dX10_transferDevice_39 (by decide) (fun h39 => ?_) (fun h39 => ?_)
      · have h39 := zb_0.mp h39
        refine zx_iconst dX10_transferDevice_55 ?_
        refine zy_top (b := zb (((0 ≤ x ∧ x < D 1 0) ∧ 0 ≤ y ∧ y < D 1 0) ∧ hasDev D x.toNat u)) (by first | exact (zb_t (by exact ⟨by assumption, by assumption⟩)).symm | exact (zb_f (fun q => absurd q.1 (by assumption))).symm | exact (zb_f (fun q => absurd q.2 (by assumption))).symm) ?_
        refine zy_cv [zi (zb ((0 ≤ x ∧ x < D 1 0) ∧ 0 ≤ y ∧ y < D 1 0)), zi (zb (¬ x = y)), zi (zb (((0 ≤ x ∧ x < D 1 0) ∧ 0 ≤ y ∧ y < D 1 0) ∧ hasDev D x.toNat u))] (sX10_passesAll (A := ((0 ≤ x ∧ x < D 1 0) ∧ 0 ≤ y ∧ y < D 1 0)) (B := (¬ x = y)) (C := (((0 ≤ x ∧ x < D 1 0) ∧ 0 ≤ y ∧ y < D 1 0) ∧ hasDev D x.toNat u)) hfl hz ) dX10_transferDevice_56 (by decide) rfl cw_RX10_462 okX10_passesAll rfl (Nat.le_of_ble_eq_true rfl) ⟨Nat.le_of_ble_eq_true rfl, Nat.le_of_ble_eq_true rfl, Nat.le_of_ble_eq_true rfl, Nat.le_of_ble_eq_true rfl⟩ ?_
        refine zy_cv [zi (zb (((0 ≤ x ∧ x < D 1 0) ∧ 0 ≤ y ∧ y < D 1 0) ∧ (¬ x = y) ∧ (((0 ≤ x ∧ x < D 1 0) ∧ 0 ≤ y ∧ y < D 1 0) ∧ hasDev D x.toNat u)))] (sX10_tried_f (A := (((0 ≤ x ∧ x < D 1 0) ∧ 0 ≤ y ∧ y < D 1 0) ∧ (¬ x = y) ∧ (((0 ≤ x ∧ x < D 1 0) ∧ 0 ≤ y ∧ y < D 1 0) ∧ hasDev D x.toNat u))) hfl (zOK_put hz (th3_r _ _ _)) (fun q => hw q.1)) dX10_transferDevice_59 (by decide) rfl cw_RX10_449 okX10_tried rfl (Nat.le_of_ble_eq_true rfl) ⟨Nat.le_of_ble_eq_true rfl, Nat.le_of_ble_eq_true rfl, Nat.le_of_ble_eq_true rfl, Nat.le_of_ble_eq_true rfl⟩ ?_
        refine zx_if_eq (tgt := 79) (by first | exact hz _ _ | assumption | exact zr_b _ | exact zcmp_r _ _ | (unfold zr at *; omega)) dX10_transferDevice_62 (by decide) (fun h62 => ?_) (fun h62 => ?_)
        · have h62 := zb_0.mp h62
          refine zx_iconst dX10_transferDevice_79 ?_
          refine zx_iret rfl rfl dX10_transferDevice_80 ?_
          rw [hQ]
          refine ⟨congrArg (fun z : Int => (Sum.inl (some (zi z)) : Option zV ⊕ String)) ?_, ?_⟩
          · rfl
          exact ⟨(zOK_put hz (th3_r _ _ _)), QP_th hR, (zput_s _ _ _ _).trans (th3_1 hw)⟩
        · have h62 := zb_n.mp h62
          exact absurd (by assumption : ((0 ≤ x ∧ x < D 1 0) ∧ 0 ≤ y ∧ y < D 1 0) ∧ (¬ x = y) ∧ (((0 ≤ x ∧ x < D 1 0) ∧ 0 ≤ y ∧ y < D 1 0) ∧ hasDev D x.toNat u)) (fun q => hw q.1)
      · have h39 := zb_n.mp h39
        refine zx_aloadN dX10_transferDevice_42 rfl rfl ?_
        refine zx_iloadN dX10_transferDevice_43 rfl rfl ?_
        refine zy_top (b := ((x.toNat : Nat) : Int)) (by omega) ?_
        refine zx_iloadN dX10_transferDevice_44 rfl rfl ?_
        refine zy_cv [zi ((x.toNat : Nat) : Int), zi u] (sX10_ownsDevice (D := D) (p := x.toNat) hfl hz (by first | assumption | omega) (by first | assumption | (refine Rel_put (by decide) ?_; assumption) | (refine Rel_put (by decide) (Rel_put (by decide) ?_); assumption) | (refine Rel_put (by decide) (Rel_put (by decide) (Rel_put (by decide) ?_)); assumption)) (by first | assumption | omega) (by first | exact hz _ _ | assumption | exact zr_b _ | exact zcmp_r _ _ | (unfold zr at *; omega))) dX10_transferDevice_45 (by decide) rfl cw_RX10_90 okX10_ownsDevice rfl (Nat.le_of_ble_eq_true rfl) ⟨Nat.le_of_ble_eq_true rfl, Nat.le_of_ble_eq_true rfl, Nat.le_of_ble_eq_true rfl, Nat.le_of_ble_eq_true rfl⟩ ?_
        refine zx_if_eq (tgt := 55) (by first | exact hz _ _ | assumption | exact zr_b _ | exact zcmp_r _ _ | (unfold zr at *; omega)) dX10_transferDevice_48 (by decide) (fun h48 => ?_) (fun h48 => ?_)
        · have h48 := zb_0.mp h48
          refine zx_iconst dX10_transferDevice_55 ?_
          refine zy_top (b := zb (((0 ≤ x ∧ x < D 1 0) ∧ 0 ≤ y ∧ y < D 1 0) ∧ hasDev D x.toNat u)) (by first | exact (zb_t (by exact ⟨by assumption, by assumption⟩)).symm | exact (zb_f (fun q => absurd q.1 (by assumption))).symm | exact (zb_f (fun q => absurd q.2 (by assumption))).symm) ?_
          refine zy_cv [zi (zb ((0 ≤ x ∧ x < D 1 0) ∧ 0 ≤ y ∧ y < D 1 0)), zi (zb (¬ x = y)), zi (zb (((0 ≤ x ∧ x < D 1 0) ∧ 0 ≤ y ∧ y < D 1 0) ∧ hasDev D x.toNat u))] (sX10_passesAll (A := ((0 ≤ x ∧ x < D 1 0) ∧ 0 ≤ y ∧ y < D 1 0)) (B := (¬ x = y)) (C := (((0 ≤ x ∧ x < D 1 0) ∧ 0 ≤ y ∧ y < D 1 0) ∧ hasDev D x.toNat u)) hfl hz ) dX10_transferDevice_56 (by decide) rfl cw_RX10_462 okX10_passesAll rfl (Nat.le_of_ble_eq_true rfl) ⟨Nat.le_of_ble_eq_true rfl, Nat.le_of_ble_eq_true rfl, Nat.le_of_ble_eq_true rfl, Nat.le_of_ble_eq_true rfl⟩ ?_
          refine zy_cv [zi (zb (((0 ≤ x ∧ x < D 1 0) ∧ 0 ≤ y ∧ y < D 1 0) ∧ (¬ x = y) ∧ (((0 ≤ x ∧ x < D 1 0) ∧ 0 ≤ y ∧ y < D 1 0) ∧ hasDev D x.toNat u)))] (sX10_tried_f (A := (((0 ≤ x ∧ x < D 1 0) ∧ 0 ≤ y ∧ y < D 1 0) ∧ (¬ x = y) ∧ (((0 ≤ x ∧ x < D 1 0) ∧ 0 ≤ y ∧ y < D 1 0) ∧ hasDev D x.toNat u))) hfl (zOK_put hz (th3_r _ _ _)) (fun q => hw q.1)) dX10_transferDevice_59 (by decide) rfl cw_RX10_449 okX10_tried rfl (Nat.le_of_ble_eq_true rfl) ⟨Nat.le_of_ble_eq_true rfl, Nat.le_of_ble_eq_true rfl, Nat.le_of_ble_eq_true rfl, Nat.le_of_ble_eq_true rfl⟩ ?_
          refine zx_if_eq (tgt := 79) (by first | exact hz _ _ | assumption | exact zr_b _ | exact zcmp_r _ _ | (unfold zr at *; omega)) dX10_transferDevice_62 (by decide) (fun h62 => ?_) (fun h62 => ?_)
          · have h62 := zb_0.mp h62
            refine zx_iconst dX10_transferDevice_79 ?_
            refine zx_iret rfl rfl dX10_transferDevice_80 ?_
            rw [hQ]
            refine ⟨congrArg (fun z : Int => (Sum.inl (some (zi z)) : Option zV ⊕ String)) ?_, ?_⟩
            · rfl
            exact ⟨(zOK_put hz (th3_r _ _ _)), QP_th hR, (zput_s _ _ _ _).trans (th3_1 hw)⟩
          · have h62 := zb_n.mp h62
            exact absurd (by assumption : ((0 ≤ x ∧ x < D 1 0) ∧ 0 ≤ y ∧ y < D 1 0) ∧ (¬ x = y) ∧ (((0 ≤ x ∧ x < D 1 0) ∧ 0 ≤ y ∧ y < D 1 0) ∧ hasDev D x.toNat u)) (fun q => hw q.1)
        · have h48 := zb_n.mp h48
          refine zx_iconst dX10_transferDevice_51 ?_
          refine zx_goto (tgt := 56) dX10_transferDevice_52 (by decide) ?_
          refine zy_top (b := zb (((0 ≤ x ∧ x < D 1 0) ∧ 0 ≤ y ∧ y < D 1 0) ∧ hasDev D x.toNat u)) (by first | exact (zb_t (by exact ⟨by assumption, by assumption⟩)).symm | exact (zb_f (fun q => absurd q.1 (by assumption))).symm | exact (zb_f (fun q => absurd q.2 (by assumption))).symm) ?_
          refine zy_cv [zi (zb ((0 ≤ x ∧ x < D 1 0) ∧ 0 ≤ y ∧ y < D 1 0)), zi (zb (¬ x = y)), zi (zb (((0 ≤ x ∧ x < D 1 0) ∧ 0 ≤ y ∧ y < D 1 0) ∧ hasDev D x.toNat u))] (sX10_passesAll (A := ((0 ≤ x ∧ x < D 1 0) ∧ 0 ≤ y ∧ y < D 1 0)) (B := (¬ x = y)) (C := (((0 ≤ x ∧ x < D 1 0) ∧ 0 ≤ y ∧ y < D 1 0) ∧ hasDev D x.toNat u)) hfl hz ) dX10_transferDevice_56 (by decide) rfl cw_RX10_462 okX10_passesAll rfl (Nat.le_of_ble_eq_true rfl) ⟨Nat.le_of_ble_eq_true rfl, Nat.le_of_ble_eq_true rfl, Nat.le_of_ble_eq_true rfl, Nat.le_of_ble_eq_true rfl⟩ ?_
          refine zy_cv [zi (zb (((0 ≤ x ∧ x < D 1 0) ∧ 0 ≤ y ∧ y < D 1 0) ∧ (¬ x = y) ∧ (((0 ≤ x ∧ x < D 1 0) ∧ 0 ≤ y ∧ y < D 1 0) ∧ hasDev D x.toNat u)))] (sX10_tried_f (A := (((0 ≤ x ∧ x < D 1 0) ∧ 0 ≤ y ∧ y < D 1 0) ∧ (¬ x = y) ∧ (((0 ≤ x ∧ x < D 1 0) ∧ 0 ≤ y ∧ y < D 1 0) ∧ hasDev D x.toNat u))) hfl (zOK_put hz (th3_r _ _ _)) (fun q => hw q.1)) dX10_transferDevice_59 (by decide) rfl cw_RX10_449 okX10_tried rfl (Nat.le_of_ble_eq_true rfl) ⟨Nat.le_of_ble_eq_true rfl, Nat.le_of_ble_eq_true rfl, Nat.le_of_ble_eq_true rfl, Nat.le_of_ble_eq_true rfl⟩ ?_
          refine zx_if_eq (tgt := 79) (by first | exact hz _ _ | assumption | exact zr_b _ | exact zcmp_r _ _ | (unfold zr at *; omega)) dX10_transferDevice_62 (by decide) (fun h62 => ?_) (fun h62 => ?_)
          · have h62 := zb_0.mp h62
            refine zx_iconst dX10_transferDevice_79 ?_
            refine zx_iret rfl rfl dX10_transferDevice_80 ?_
            rw [hQ]
            refine ⟨congrArg (fun z : Int => (Sum.inl (some (zi z)) : Option zV ⊕ String)) ?_, ?_⟩
            · rfl
            exact ⟨(zOK_put hz (th3_r _ _ _)), QP_th hR, (zput_s _ _ _ _).trans (th3_1 hw)⟩
          · have h62 := zb_n.mp h62
            exact absurd (by assumption : ((0 ≤ x ∧ x < D 1 0) ∧ 0 ≤ y ∧ y < D 1 0) ∧ (¬ x = y) ∧ (((0 ≤ x ∧ x < D 1 0) ∧ 0 ≤ y ∧ y < D 1 0) ∧ hasDev D x.toNat u)) (fun q => hw q.1)
    · refine zx_iconst dX10_transferDevice_32 ?_
      refine zx_goto (tgt := 37) dX10_transferDevice_33 (by decide) ?_
      refine zy_top (b := zb (¬ x = y)) (by first | exact (zb_t (by assumption)).symm | exact (zb_t (by omega)).symm | exact (zb_f (by omega)).symm | exact (zb_f (by assumption)).symm | exact (zb_f (fun q => q (by assumption))).symm) ?_
      refine zx_iload dX10_transferDevice_37 rfl ?_
      refine zx_if_eq (tgt := 55) (by first | exact hz _ _ | assumption | exact zr_b _ | exact zcmp_r _ _ | (unfold zr at *; omega)) dX10_transferDevice_39 (by decide) (fun h39 => ?_) (fun h39 => ?_)
      · have h39 := zb_0.mp h39
        refine zx_iconst dX10_transferDevice_55 ?_
        refine zy_top (b := zb (((0 ≤ x ∧ x < D 1 0) ∧ 0 ≤ y ∧ y < D 1 0) ∧ hasDev D x.toNat u)) (by first | exact (zb_t (by exact ⟨by assumption, by assumption⟩)).symm | exact (zb_f (fun q => absurd q.1 (by assumption))).symm | exact (zb_f (fun q => absurd q.2 (by assumption))).symm) ?_
        refine zy_cv [zi (zb ((0 ≤ x ∧ x < D 1 0) ∧ 0 ≤ y ∧ y < D 1 0)), zi (zb (¬ x = y)), zi (zb (((0 ≤ x ∧ x < D 1 0) ∧ 0 ≤ y ∧ y < D 1 0) ∧ hasDev D x.toNat u))] (sX10_passesAll (A := ((0 ≤ x ∧ x < D 1 0) ∧ 0 ≤ y ∧ y < D 1 0)) (B := (¬ x = y)) (C := (((0 ≤ x ∧ x < D 1 0) ∧ 0 ≤ y ∧ y < D 1 0) ∧ hasDev D x.toNat u)) hfl hz ) dX10_transferDevice_56 (by decide) rfl cw_RX10_462 okX10_passesAll rfl (Nat.le_of_ble_eq_true rfl) ⟨Nat.le_of_ble_eq_true rfl, Nat.le_of_ble_eq_true rfl, Nat.le_of_ble_eq_true rfl, Nat.le_of_ble_eq_true rfl⟩ ?_
        refine zy_cv [zi (zb (((0 ≤ x ∧ x < D 1 0) ∧ 0 ≤ y ∧ y < D 1 0) ∧ (¬ x = y) ∧ (((0 ≤ x ∧ x < D 1 0) ∧ 0 ≤ y ∧ y < D 1 0) ∧ hasDev D x.toNat u)))] (sX10_tried_f (A := (((0 ≤ x ∧ x < D 1 0) ∧ 0 ≤ y ∧ y < D 1 0) ∧ (¬ x = y) ∧ (((0 ≤ x ∧ x < D 1 0) ∧ 0 ≤ y ∧ y < D 1 0) ∧ hasDev D x.toNat u))) hfl (zOK_put hz (th3_r _ _ _)) (fun q => hw q.1)) dX10_transferDevice_59 (by decide) rfl cw_RX10_449 okX10_tried rfl (Nat.le_of_ble_eq_true rfl) ⟨Nat.le_of_ble_eq_true rfl, Nat.le_of_ble_eq_true rfl, Nat.le_of_ble_eq_true rfl, Nat.le_of_ble_eq_true rfl⟩ ?_
        refine zx_if_eq (tgt := 79) (by first | exact hz _ _ | assumption | exact zr_b _ | exact zcmp_r _ _ | (unfold zr at *; omega)) dX10_transferDevice_62 (by decide) (fun h62 => ?_) (fun h62 => ?_)
        · have h62 := zb_0.mp h62
          refine zx_iconst dX10_transferDevice_79 ?_
          refine zx_iret rfl rfl dX10_transferDevice_80 ?_
          rw [hQ]
          refine ⟨congrArg (fun z : Int => (Sum.inl (some (zi z)) : Option zV ⊕ String)) ?_, ?_⟩
          · rfl
          exact ⟨(zOK_put hz (th3_r _ _ _)), QP_th hR, (zput_s _ _ _ _).trans (th3_1 hw)⟩
        · have h62 := zb_n.mp h62
          exact absurd (by assumption : ((0 ≤ x ∧ x < D 1 0) ∧ 0 ≤ y ∧ y < D 1 0) ∧ (¬ x = y) ∧ (((0 ≤ x ∧ x < D 1 0) ∧ 0 ≤ y ∧ y < D 1 0) ∧ hasDev D x.toNat u)) (fun q => hw q.1)
      · have h39 := zb_n.mp h39
        refine zx_aloadN dX10_transferDevice_42 rfl rfl ?_
        refine zx_iloadN dX10_transferDevice_43 rfl rfl ?_
        refine zy_top (b := ((x.toNat : Nat) : Int)) (by omega) ?_
        refine zx_iloadN dX10_transferDevice_44 rfl rfl ?_
        refine zy_cv [zi ((x.toNat : Nat) : Int), zi u] (sX10_ownsDevice (D := D) (p := x.toNat) hfl hz (by first | assumption | omega) (by first | assumption | (refine Rel_put (by decide) ?_; assumption) | (refine Rel_put (by decide) (Rel_put (by decide) ?_); assumption) | (refine Rel_put (by decide) (Rel_put (by decide) (Rel_put (by decide) ?_)); assumption)) (by first | assumption | omega) (by first | exact hz _ _ | assumption | exact zr_b _ | exact zcmp_r _ _ | (unfold zr at *; omega))) dX10_transferDevice_45 (by decide) rfl cw_RX10_90 okX10_ownsDevice rfl (Nat.le_of_ble_eq_true rfl) ⟨Nat.le_of_ble_eq_true rfl, Nat.le_of_ble_eq_true rfl, Nat.le_of_ble_eq_true rfl, Nat.le_of_ble_eq_true rfl⟩ ?_
        refine zx_if_eq (tgt := 55) (by first | exact hz _ _ | assumption | exact zr_b _ | exact zcmp_r _ _ | (unfold zr at *; omega)) dX10_transferDevice_48 (by decide) (fun h48 => ?_) (fun h48 => ?_)
        · have h48 := zb_0.mp h48
          refine zx_iconst dX10_transferDevice_55 ?_
          refine zy_top (b := zb (((0 ≤ x ∧ x < D 1 0) ∧ 0 ≤ y ∧ y < D 1 0) ∧ hasDev D x.toNat u)) (by first | exact (zb_t (by exact ⟨by assumption, by assumption⟩)).symm | exact (zb_f (fun q => absurd q.1 (by assumption))).symm | exact (zb_f (fun q => absurd q.2 (by assumption))).symm) ?_
          refine zy_cv [zi (zb ((0 ≤ x ∧ x < D 1 0) ∧ 0 ≤ y ∧ y < D 1 0)), zi (zb (¬ x = y)), zi (zb (((0 ≤ x ∧ x < D 1 0) ∧ 0 ≤ y ∧ y < D 1 0) ∧ hasDev D x.toNat u))] (sX10_passesAll (A := ((0 ≤ x ∧ x < D 1 0) ∧ 0 ≤ y ∧ y < D 1 0)) (B := (¬ x = y)) (C := (((0 ≤ x ∧ x < D 1 0) ∧ 0 ≤ y ∧ y < D 1 0) ∧ hasDev D x.toNat u)) hfl hz ) dX10_transferDevice_56 (by decide) rfl cw_RX10_462 okX10_passesAll rfl (Nat.le_of_ble_eq_true rfl) ⟨Nat.le_of_ble_eq_true rfl, Nat.le_of_ble_eq_true rfl, Nat.le_of_ble_eq_true rfl, Nat.le_of_ble_eq_true rfl⟩ ?_
          refine zy_cv [zi (zb (((0 ≤ x ∧ x < D 1 0) ∧ 0 ≤ y ∧ y < D 1 0) ∧ (¬ x = y) ∧ (((0 ≤ x ∧ x < D 1 0) ∧ 0 ≤ y ∧ y < D 1 0) ∧ hasDev D x.toNat u)))] (sX10_tried_f (A := (((0 ≤ x ∧ x < D 1 0) ∧ 0 ≤ y ∧ y < D 1 0) ∧ (¬ x = y) ∧ (((0 ≤ x ∧ x < D 1 0) ∧ 0 ≤ y ∧ y < D 1 0) ∧ hasDev D x.toNat u))) hfl (zOK_put hz (th3_r _ _ _)) (fun q => hw q.1)) dX10_transferDevice_59 (by decide) rfl cw_RX10_449 okX10_tried rfl (Nat.le_of_ble_eq_true rfl) ⟨Nat.le_of_ble_eq_true rfl, Nat.le_of_ble_eq_true rfl, Nat.le_of_ble_eq_true rfl, Nat.le_of_ble_eq_true rfl⟩ ?_
          refine zx_if_eq (tgt := 79) (by first | exact hz _ _ | assumption | exact zr_b _ | exact zcmp_r _ _ | (unfold zr at *; omega)) dX10_transferDevice_62 (by decide) (fun h62 => ?_) (fun h62 => ?_)
          · have h62 := zb_0.mp h62
            refine zx_iconst dX10_transferDevice_79 ?_
            refine zx_iret rfl rfl dX10_transferDevice_80 ?_
            rw [hQ]
            refine ⟨congrArg (fun z : Int => (Sum.inl (some (zi z)) : Option zV ⊕ String)) ?_, ?_⟩
            · rfl
            exact ⟨(zOK_put hz (th3_r _ _ _)), QP_th hR, (zput_s _ _ _ _).trans (th3_1 hw)⟩
          · have h62 := zb_n.mp h62
            exact absurd (by assumption : ((0 ≤ x ∧ x < D 1 0) ∧ 0 ≤ y ∧ y < D 1 0) ∧ (¬ x = y) ∧ (((0 ≤ x ∧ x < D 1 0) ∧ 0 ≤ y ∧ y < D 1 0) ∧ hasDev D x.toNat u)) (fun q => hw q.1)
        · have h48 := zb_n.mp h48
          refine zx_iconst dX10_transferDevice_51 ?_
          refine zx_goto (tgt := 56) dX10_transferDevice_52 (by decide) ?_
          refine zy_top (b := zb (((0 ≤ x ∧ x < D 1 0) ∧ 0 ≤ y ∧ y < D 1 0) ∧ hasDev D x.toNat u)) (by first | exact (zb_t (by exact ⟨by assumption, by assumption⟩)).symm | exact (zb_f (fun q => absurd q.1 (by assumption))).symm | exact (zb_f (fun q => absurd q.2 (by assumption))).symm) ?_
          refine zy_cv [zi (zb ((0 ≤ x ∧ x < D 1 0) ∧ 0 ≤ y ∧ y < D 1 0)), zi (zb (¬ x = y)), zi (zb (((0 ≤ x ∧ x < D 1 0) ∧ 0 ≤ y ∧ y < D 1 0) ∧ hasDev D x.toNat u))] (sX10_passesAll (A := ((0 ≤ x ∧ x < D 1 0) ∧ 0 ≤ y ∧ y < D 1 0)) (B := (¬ x = y)) (C := (((0 ≤ x ∧ x < D 1 0) ∧ 0 ≤ y ∧ y < D 1 0) ∧ hasDev D x.toNat u)) hfl hz ) dX10_transferDevice_56 (by decide) rfl cw_RX10_462 okX10_passesAll rfl (Nat.le_of_ble_eq_true rfl) ⟨Nat.le_of_ble_eq_true rfl, Nat.le_of_ble_eq_true rfl, Nat.le_of_ble_eq_true rfl, Nat.le_of_ble_eq_true rfl⟩ ?_
          refine zy_cv [zi (zb (((0 ≤ x ∧ x < D 1 0) ∧ 0 ≤ y ∧ y < D 1 0) ∧ (¬ x = y) ∧ (((0 ≤ x ∧ x < D 1 0) ∧ 0 ≤ y ∧ y < D 1 0) ∧ hasDev D x.toNat u)))] (sX10_tried_f (A := (((0 ≤ x ∧ x < D 1 0) ∧ 0 ≤ y ∧ y < D 1 0) ∧ (¬ x = y) ∧ (((0 ≤ x ∧ x < D 1 0) ∧ 0 ≤ y ∧ y < D 1 0) ∧ hasDev D x.toNat u))) hfl (zOK_put hz (th3_r _ _ _)) (fun q => hw q.1)) dX10_transferDevice_59 (by decide) rfl cw_RX10_449 okX10_tried rfl (Nat.le_of_ble_eq_true rfl) ⟨Nat.le_of_ble_eq_true rfl, Nat.le_of_ble_eq_true rfl, Nat.le_of_ble_eq_true rfl, Nat.le_of_ble_eq_true rfl⟩ ?_
          refine zx_if_eq (tgt := 79) (by first | exact hz _ _ | assumption | exact zr_b _ | exact zcmp_r _ _ | (unfold zr at *; omega)) dX10_transferDevice_62 (by decide) (fun h62 => ?_) (fun h62 => ?_)
          · have h62 := zb_0.mp h62
            refine zx_iconst dX10_transferDevice_79 ?_
            refine zx_iret rfl rfl dX10_transferDevice_80 ?_
            rw [hQ]
            refine ⟨congrArg (fun z : Int => (Sum.inl (some (zi z)) : Option zV ⊕ String)) ?_, ?_⟩
            · rfl
            exact ⟨(zOK_put hz (th3_r _ _ _)), QP_th hR, (zput_s _ _ _ _).trans (th3_1 hw)⟩
          · have h62 := zb_n.mp h62
            exact absurd (by assumption : ((0 ≤ x ∧ x < D 1 0) ∧ 0 ≤ y ∧ y < D 1 0) ∧ (¬ x = y) ∧ (((0 ≤ x ∧ x < D 1 0) ∧ 0 ≤ y ∧ y < D 1 0) ∧ hasDev D x.toNat u)) (fun q => hw q.1)
  · have h5 := zb_n.mp h5
    refine zx_aloadN dX10_transferDevice_8 rfl rfl ?_
    refine zx_iloadN dX10_transferDevice_9 rfl rfl ?_
    refine zy_cv [zi y] (sX10_isPrinter (D := D) hfl hz (by first | assumption | omega) (by first | assumption | (refine Rel_put (by decide) ?_; assumption) | (refine Rel_put (by decide) (Rel_put (by decide) ?_); assumption) | (refine Rel_put (by decide) (Rel_put (by decide) (Rel_put (by decide) ?_)); assumption)) (by first | exact hz _ _ | assumption | exact zr_b _ | exact zcmp_r _ _ | (unfold zr at *; omega))) dX10_transferDevice_10 (by decide) rfl cw_RX10_400 okX10_isPrinter rfl (Nat.le_of_ble_eq_true rfl) ⟨Nat.le_of_ble_eq_true rfl, Nat.le_of_ble_eq_true rfl, Nat.le_of_ble_eq_true rfl, Nat.le_of_ble_eq_true rfl⟩ ?_
    refine zx_if_eq (tgt := 20) (by first | exact hz _ _ | assumption | exact zr_b _ | exact zcmp_r _ _ | (unfold zr at *; omega)) dX10_transferDevice_13 (by decide) (fun h13 => ?_) (fun h13 => ?_)
    · have h13 := zb_0.mp h13
      refine zx_iconst dX10_transferDevice_20 ?_
      refine zy_top (b := zb ((0 ≤ x ∧ x < D 1 0) ∧ 0 ≤ y ∧ y < D 1 0)) (by first | exact (zb_t (by exact ⟨by assumption, by assumption⟩)).symm | exact (zb_f (fun q => absurd q.1 (by assumption))).symm | exact (zb_f (fun q => absurd q.2 (by assumption))).symm) ?_
      refine zy_istore [zf 10 261, zi x, zi y, zi u, zi (zb ((0 ≤ x ∧ x < D 1 0) ∧ 0 ≤ y ∧ y < D 1 0))] dX10_transferDevice_21 (Nat.le_of_ble_eq_true rfl) (Nat.le_of_ble_eq_true rfl) rfl rfl ?_
      refine zx_aloadN dX10_transferDevice_23 rfl rfl ?_
      refine zx_aloadN dX10_transferDevice_24 rfl rfl ?_
      refine zx_iload dX10_transferDevice_25 rfl ?_
      refine zx_iloadN dX10_transferDevice_27 rfl rfl ?_
      refine zx_iloadN dX10_transferDevice_28 rfl rfl ?_
      refine zx_icmp_eq (tgt := 36) (by first | exact hz _ _ | assumption | exact zr_b _ | exact zcmp_r _ _ | (unfold zr at *; omega)) (by first | exact hz _ _ | assumption | exact zr_b _ | exact zcmp_r _ _ | (unfold zr at *; omega)) dX10_transferDevice_29 (by decide) (fun h29 => ?_) (fun h29 => ?_)
      · refine zx_iconst dX10_transferDevice_36 ?_
        refine zy_top (b := zb (¬ x = y)) (by first | exact (zb_t (by assumption)).symm | exact (zb_t (by omega)).symm | exact (zb_f (by omega)).symm | exact (zb_f (by assumption)).symm | exact (zb_f (fun q => q (by assumption))).symm) ?_
        refine zx_iload dX10_transferDevice_37 rfl ?_
        refine zx_if_eq (tgt := 55) (by first | exact hz _ _ | assumption | exact zr_b _ | exact zcmp_r _ _ | (unfold zr at *; omega)) dX10_transferDevice_39 (by decide) (fun h39 => ?_) (fun h39 => ?_)
        · have h39 := zb_0.mp h39
          refine zx_iconst dX10_transferDevice_55 ?_
          refine zy_top (b := zb (((0 ≤ x ∧ x < D 1 0) ∧ 0 ≤ y ∧ y < D 1 0) ∧ hasDev D x.toNat u)) (by first | exact (zb_t (by exact ⟨by assumption, by assumption⟩)).symm | exact (zb_f (fun q => absurd q.1 (by assumption))).symm | exact (zb_f (fun q => absurd q.2 (by assumption))).symm) ?_
          refine zy_cv [zi (zb ((0 ≤ x ∧ x < D 1 0) ∧ 0 ≤ y ∧ y < D 1 0)), zi (zb (¬ x = y)), zi (zb (((0 ≤ x ∧ x < D 1 0) ∧ 0 ≤ y ∧ y < D 1 0) ∧ hasDev D x.toNat u))] (sX10_passesAll (A := ((0 ≤ x ∧ x < D 1 0) ∧ 0 ≤ y ∧ y < D 1 0)) (B := (¬ x = y)) (C := (((0 ≤ x ∧ x < D 1 0) ∧ 0 ≤ y ∧ y < D 1 0) ∧ hasDev D x.toNat u)) hfl hz ) dX10_transferDevice_56 (by decide) rfl cw_RX10_462 okX10_passesAll rfl (Nat.le_of_ble_eq_true rfl) ⟨Nat.le_of_ble_eq_true rfl, Nat.le_of_ble_eq_true rfl, Nat.le_of_ble_eq_true rfl, Nat.le_of_ble_eq_true rfl⟩ ?_
          refine zy_cv [zi (zb (((0 ≤ x ∧ x < D 1 0) ∧ 0 ≤ y ∧ y < D 1 0) ∧ (¬ x = y) ∧ (((0 ≤ x ∧ x < D 1 0) ∧ 0 ≤ y ∧ y < D 1 0) ∧ hasDev D x.toNat u)))] (sX10_tried_f (A := (((0 ≤ x ∧ x < D 1 0) ∧ 0 ≤ y ∧ y < D 1 0) ∧ (¬ x = y) ∧ (((0 ≤ x ∧ x < D 1 0) ∧ 0 ≤ y ∧ y < D 1 0) ∧ hasDev D x.toNat u))) hfl (zOK_put hz (th3_r _ _ _)) (fun q => hw q.1)) dX10_transferDevice_59 (by decide) rfl cw_RX10_449 okX10_tried rfl (Nat.le_of_ble_eq_true rfl) ⟨Nat.le_of_ble_eq_true rfl, Nat.le_of_ble_eq_true rfl, Nat.le_of_ble_eq_true rfl, Nat.le_of_ble_eq_true rfl⟩ ?_
          refine zx_if_eq (tgt := 79) (by first | exact hz _ _ | assumption | exact zr_b _ | exact zcmp_r _ _ | (unfold zr at *; omega)) dX10_transferDevice_62 (by decide) (fun h62 => ?_) (fun h62 => ?_)
          · have h62 := zb_0.mp h62
            refine zx_iconst dX10_transferDevice_79 ?_
            refine zx_iret rfl rfl dX10_transferDevice_80 ?_
            rw [hQ]
            refine ⟨congrArg (fun z : Int => (Sum.inl (some (zi z)) : Option zV ⊕ String)) ?_, ?_⟩
            · rfl
            exact ⟨(zOK_put hz (th3_r _ _ _)), QP_th hR, (zput_s _ _ _ _).trans (th3_1 hw)⟩
          · have h62 := zb_n.mp h62
            exact absurd (by assumption : ((0 ≤ x ∧ x < D 1 0) ∧ 0 ≤ y ∧ y < D 1 0) ∧ (¬ x = y) ∧ (((0 ≤ x ∧ x < D 1 0) ∧ 0 ≤ y ∧ y < D 1 0) ∧ hasDev D x.toNat u)) (fun q => hw q.1)
        · have h39 := zb_n.mp h39
          refine zx_aloadN dX10_transferDevice_42 rfl rfl ?_
          refine zx_iloadN dX10_transferDevice_43 rfl rfl ?_
          refine zy_top (b := ((x.toNat : Nat) : Int)) (by omega) ?_
          refine zx_iloadN dX10_transferDevice_44 rfl rfl ?_
          refine zy_cv [zi ((x.toNat : Nat) : Int), zi u] (sX10_ownsDevice (D := D) (p := x.toNat) hfl hz (by first | assumption | omega) (by first | assumption | (refine Rel_put (by decide) ?_; assumption) | (refine Rel_put (by decide) (Rel_put (by decide) ?_); assumption) | (refine Rel_put (by decide) (Rel_put (by decide) (Rel_put (by decide) ?_)); assumption)) (by first | assumption | omega) (by first | exact hz _ _ | assumption | exact zr_b _ | exact zcmp_r _ _ | (unfold zr at *; omega))) dX10_transferDevice_45 (by decide) rfl cw_RX10_90 okX10_ownsDevice rfl (Nat.le_of_ble_eq_true rfl) ⟨Nat.le_of_ble_eq_true rfl, Nat.le_of_ble_eq_true rfl, Nat.le_of_ble_eq_true rfl, Nat.le_of_ble_eq_true rfl⟩ ?_
          refine zx_if_eq (tgt := 55) (by first | exact hz _ _ | assumption | exact zr_b _ | exact zcmp_r _ _ | (unfold zr at *; omega)) dX10_transferDevice_48 (by decide) (fun h48 => ?_) (fun h48 => ?_)
          · have h48 := zb_0.mp h48
            refine zx_iconst dX10_transferDevice_55 ?_
            refine zy_top (b := zb (((0 ≤ x ∧ x < D 1 0) ∧ 0 ≤ y ∧ y < D 1 0) ∧ hasDev D x.toNat u)) (by first | exact (zb_t (by exact ⟨by assumption, by assumption⟩)).symm | exact (zb_f (fun q => absurd q.1 (by assumption))).symm | exact (zb_f (fun q => absurd q.2 (by assumption))).symm) ?_
            refine zy_cv [zi (zb ((0 ≤ x ∧ x < D 1 0) ∧ 0 ≤ y ∧ y < D 1 0)), zi (zb (¬ x = y)), zi (zb (((0 ≤ x ∧ x < D 1 0) ∧ 0 ≤ y ∧ y < D 1 0) ∧ hasDev D x.toNat u))] (sX10_passesAll (A := ((0 ≤ x ∧ x < D 1 0) ∧ 0 ≤ y ∧ y < D 1 0)) (B := (¬ x = y)) (C := (((0 ≤ x ∧ x < D 1 0) ∧ 0 ≤ y ∧ y < D 1 0) ∧ hasDev D x.toNat u)) hfl hz ) dX10_transferDevice_56 (by decide) rfl cw_RX10_462 okX10_passesAll rfl (Nat.le_of_ble_eq_true rfl) ⟨Nat.le_of_ble_eq_true rfl, Nat.le_of_ble_eq_true rfl, Nat.le_of_ble_eq_true rfl, Nat.le_of_ble_eq_true rfl⟩ ?_
            refine zy_cv [zi (zb (((0 ≤ x ∧ x < D 1 0) ∧ 0 ≤ y ∧ y < D 1 0) ∧ (¬ x = y) ∧ (((0 ≤ x ∧ x < D 1 0) ∧ 0 ≤ y ∧ y < D 1 0) ∧ hasDev D x.toNat u)))] (sX10_tried_f (A := (((0 ≤ x ∧ x < D 1 0) ∧ 0 ≤ y ∧ y < D 1 0) ∧ (¬ x = y) ∧ (((0 ≤ x ∧ x < D 1 0) ∧ 0 ≤ y ∧ y < D 1 0) ∧ hasDev D x.toNat u))) hfl (zOK_put hz (th3_r _ _ _)) (fun q => hw q.1)) dX10_transferDevice_59 (by decide) rfl cw_RX10_449 okX10_tried rfl (Nat.le_of_ble_eq_true rfl) ⟨Nat.le_of_ble_eq_true rfl, Nat.le_of_ble_eq_true rfl, Nat.le_of_ble_eq_true rfl, Nat.le_of_ble_eq_true rfl⟩ ?_
            refine zx_if_eq (tgt := 79) (by first | exact hz _ _ | assumption | exact zr_b _ | exact zcmp_r _ _ | (unfold zr at *; omega)) dX10_transferDevice_62 (by decide) (fun h62 => ?_) (fun h62 => ?_)
            · have h62 := zb_0.mp h62
              refine zx_iconst dX10_transferDevice_79 ?_
              refine zx_iret rfl rfl dX10_transferDevice_80 ?_
              rw [hQ]
              refine ⟨congrArg (fun z : Int => (Sum.inl (some (zi z)) : Option zV ⊕ String)) ?_, ?_⟩
              · rfl
              exact ⟨(zOK_put hz (th3_r _ _ _)), QP_th hR, (zput_s _ _ _ _).trans (th3_1 hw)⟩
            · have h62 := zb_n.mp h62
              exact absurd (by assumption : ((0 ≤ x ∧ x < D 1 0) ∧ 0 ≤ y ∧ y < D 1 0) ∧ (¬ x = y) ∧ (((0 ≤ x ∧ x < D 1 0) ∧ 0 ≤ y ∧ y < D 1 0) ∧ hasDev D x.toNat u)) (fun q => hw q.1)
          · have h48 := zb_n.mp h48
            refine zx_iconst dX10_transferDevice_51 ?_
            refine zx_goto (tgt := 56) dX10_transferDevice_52 (by decide) ?_
            refine zy_top (b := zb (((0 ≤ x ∧ x < D 1 0) ∧ 0 ≤ y ∧ y < D 1 0) ∧ hasDev D x.toNat u)) (by first | exact (zb_t (by exact ⟨by assumption, by assumption⟩)).symm | exact (zb_f (fun q => absurd q.1 (by assumption))).symm | exact (zb_f (fun q => absurd q.2 (by assumption))).symm) ?_
            refine zy_cv [zi (zb ((0 ≤ x ∧ x < D 1 0) ∧ 0 ≤ y ∧ y < D 1 0)), zi (zb (¬ x = y)), zi (zb (((0 ≤ x ∧ x < D 1 0) ∧ 0 ≤ y ∧ y < D 1 0) ∧ hasDev D x.toNat u))] (sX10_passesAll (A := ((0 ≤ x ∧ x < D 1 0) ∧ 0 ≤ y ∧ y < D 1 0)) (B := (¬ x = y)) (C := (((0 ≤ x ∧ x < D 1 0) ∧ 0 ≤ y ∧ y < D 1 0) ∧ hasDev D x.toNat u)) hfl hz ) dX10_transferDevice_56 (by decide) rfl cw_RX10_462 okX10_passesAll rfl (Nat.le_of_ble_eq_true rfl) ⟨Nat.le_of_ble_eq_true rfl, Nat.le_of_ble_eq_true rfl, Nat.le_of_ble_eq_true rfl, Nat.le_of_ble_eq_true rfl⟩ ?_
            refine zy_cv [zi (zb (((0 ≤ x ∧ x < D 1 0) ∧ 0 ≤ y ∧ y < D 1 0) ∧ (¬ x = y) ∧ (((0 ≤ x ∧ x < D 1 0) ∧ 0 ≤ y ∧ y < D 1 0) ∧ hasDev D x.toNat u)))] (sX10_tried_f (A := (((0 ≤ x ∧ x < D 1 0) ∧ 0 ≤ y ∧ y < D 1 0) ∧ (¬ x = y) ∧ (((0 ≤ x ∧ x < D 1 0) ∧ 0 ≤ y ∧ y < D 1 0) ∧ hasDev D x.toNat u))) hfl (zOK_put hz (th3_r _ _ _)) (fun q => hw q.1)) dX10_transferDevice_59 (by decide) rfl cw_RX10_449 okX10_tried rfl (Nat.le_of_ble_eq_true rfl) ⟨Nat.le_of_ble_eq_true rfl, Nat.le_of_ble_eq_true rfl, Nat.le_of_ble_eq_true rfl, Nat.le_of_ble_eq_true rfl⟩ ?_
            refine zx_if_eq (tgt := 79) (by first | exact hz _ _ | assumption | exact zr_b _ | exact zcmp_r _ _ | (unfold zr at *; omega)) dX10_transferDevice_62 (by decide) (fun h62 => ?_) (fun h62 => ?_)
            · have h62 := zb_0.mp h62
              refine zx_iconst dX10_transferDevice_79 ?_
              refine zx_iret rfl rfl dX10_transferDevice_80 ?_
              rw [hQ]
              refine ⟨congrArg (fun z : Int => (Sum.inl (some (zi z)) : Option zV ⊕ String)) ?_, ?_⟩
              · rfl
              exact ⟨(zOK_put hz (th3_r _ _ _)), QP_th hR, (zput_s _ _ _ _).trans (th3_1 hw)⟩
            · have h62 := zb_n.mp h62
              exact absurd (by assumption : ((0 ≤ x ∧ x < D 1 0) ∧ 0 ≤ y ∧ y < D 1 0) ∧ (¬ x = y) ∧ (((0 ≤ x ∧ x < D 1 0) ∧ 0 ≤ y ∧ y < D 1 0) ∧ hasDev D x.toNat u)) (fun q => hw q.1)
      · refine zx_iconst dX10_transferDevice_32 ?_
        refine zx_goto (tgt := 37) dX10_transferDevice_33 (by decide) ?_
        refine zy_top (b := zb (¬ x = y)) (by first | exact (zb_t (by assumption)).symm | exact (zb_t (by omega)).symm | exact (zb_f (by omega)).symm | exact (zb_f (by assumption)).symm | exact (zb_f (fun q => q (by assumption))).symm) ?_
        refine zx_iload dX10_transferDevice_37 rfl ?_
        refine zx_if_eq (tgt := 55) (by first | exact hz _ _ | assumption | exact zr_b _ | exact zcmp_r _ _ | (unfold zr at *; omega)) dX10_transferDevice_39 (by decide) (fun h39 => ?_) (fun h39 => ?_)
        · have h39 := zb_0.mp h39
          refine zx_iconst dX10_transferDevice_55 ?_
          refine zy_top (b := zb (((0 ≤ x ∧ x < D 1 0) ∧ 0 ≤ y ∧ y < D 1 0) ∧ hasDev D x.toNat u)) (by first | exact (zb_t (by exact ⟨by assumption, by assumption⟩)).symm | exact (zb_f (fun q => absurd q.1 (by assumption))).symm | exact (zb_f (fun q => absurd q.2 (by assumption))).symm) ?_
          refine zy_cv [zi (zb ((0 ≤ x ∧ x < D 1 0) ∧ 0 ≤ y ∧ y < D 1 0)), zi (zb (¬ x = y)), zi (zb (((0 ≤ x ∧ x < D 1 0) ∧ 0 ≤ y ∧ y < D 1 0) ∧ hasDev D x.toNat u))] (sX10_passesAll (A := ((0 ≤ x ∧ x < D 1 0) ∧ 0 ≤ y ∧ y < D 1 0)) (B := (¬ x = y)) (C := (((0 ≤ x ∧ x < D 1 0) ∧ 0 ≤ y ∧ y < D 1 0) ∧ hasDev D x.toNat u)) hfl hz ) dX10_transferDevice_56 (by decide) rfl cw_RX10_462 okX10_passesAll rfl (Nat.le_of_ble_eq_true rfl) ⟨Nat.le_of_ble_eq_true rfl, Nat.le_of_ble_eq_true rfl, Nat.le_of_ble_eq_true rfl, Nat.le_of_ble_eq_true rfl⟩ ?_
          refine zy_cv [zi (zb (((0 ≤ x ∧ x < D 1 0) ∧ 0 ≤ y ∧ y < D 1 0) ∧ (¬ x = y) ∧ (((0 ≤ x ∧ x < D 1 0) ∧ 0 ≤ y ∧ y < D 1 0) ∧ hasDev D x.toNat u)))] (sX10_tried_f (A := (((0 ≤ x ∧ x < D 1 0) ∧ 0 ≤ y ∧ y < D 1 0) ∧ (¬ x = y) ∧ (((0 ≤ x ∧ x < D 1 0) ∧ 0 ≤ y ∧ y < D 1 0) ∧ hasDev D x.toNat u))) hfl (zOK_put hz (th3_r _ _ _)) (fun q => hw q.1)) dX10_transferDevice_59 (by decide) rfl cw_RX10_449 okX10_tried rfl (Nat.le_of_ble_eq_true rfl) ⟨Nat.le_of_ble_eq_true rfl, Nat.le_of_ble_eq_true rfl, Nat.le_of_ble_eq_true rfl, Nat.le_of_ble_eq_true rfl⟩ ?_
          refine zx_if_eq (tgt := 79) (by first | exact hz _ _ | assumption | exact zr_b _ | exact zcmp_r _ _ | (unfold zr at *; omega)) dX10_transferDevice_62 (by decide) (fun h62 => ?_) (fun h62 => ?_)
          · have h62 := zb_0.mp h62
            refine zx_iconst dX10_transferDevice_79 ?_
            refine zx_iret rfl rfl dX10_transferDevice_80 ?_
            rw [hQ]
            refine ⟨congrArg (fun z : Int => (Sum.inl (some (zi z)) : Option zV ⊕ String)) ?_, ?_⟩
            · rfl
            exact ⟨(zOK_put hz (th3_r _ _ _)), QP_th hR, (zput_s _ _ _ _).trans (th3_1 hw)⟩
          · have h62 := zb_n.mp h62
            exact absurd (by assumption : ((0 ≤ x ∧ x < D 1 0) ∧ 0 ≤ y ∧ y < D 1 0) ∧ (¬ x = y) ∧ (((0 ≤ x ∧ x < D 1 0) ∧ 0 ≤ y ∧ y < D 1 0) ∧ hasDev D x.toNat u)) (fun q => hw q.1)
        · have h39 := zb_n.mp h39
          refine zx_aloadN dX10_transferDevice_42 rfl rfl ?_
          refine zx_iloadN dX10_transferDevice_43 rfl rfl ?_
          refine zy_top (b := ((x.toNat : Nat) : Int)) (by omega) ?_
          refine zx_iloadN dX10_transferDevice_44 rfl rfl ?_
          refine zy_cv [zi ((x.toNat : Nat) : Int), zi u] (sX10_ownsDevice (D := D) (p := x.toNat) hfl hz (by first | assumption | omega) (by first | assumption | (refine Rel_put (by decide) ?_; assumption) | (refine Rel_put (by decide) (Rel_put (by decide) ?_); assumption) | (refine Rel_put (by decide) (Rel_put (by decide) (Rel_put (by decide) ?_)); assumption)) (by first | assumption | omega) (by first | exact hz _ _ | assumption | exact zr_b _ | exact zcmp_r _ _ | (unfold zr at *; omega))) dX10_transferDevice_45 (by decide) rfl cw_RX10_90 okX10_ownsDevice rfl (Nat.le_of_ble_eq_true rfl) ⟨Nat.le_of_ble_eq_true rfl, Nat.le_of_ble_eq_true rfl, Nat.le_of_ble_eq_true rfl, Nat.le_of_ble_eq_true rfl⟩ ?_
          refine zx_if_eq (tgt := 55) (by first | exact hz _ _ | assumption | exact zr_b _ | exact zcmp_r _ _ | (unfold zr at *; omega)) dX10_transferDevice_48 (by decide) (fun h48 => ?_) (fun h48 => ?_)
          · have h48 := zb_0.mp h48
            refine zx_iconst dX10_transferDevice_55 ?_
            refine zy_top (b := zb (((0 ≤ x ∧ x < D 1 0) ∧ 0 ≤ y ∧ y < D 1 0) ∧ hasDev D x.toNat u)) (by first | exact (zb_t (by exact ⟨by assumption, by assumption⟩)).symm | exact (zb_f (fun q => absurd q.1 (by assumption))).symm | exact (zb_f (fun q => absurd q.2 (by assumption))).symm) ?_
            refine zy_cv [zi (zb ((0 ≤ x ∧ x < D 1 0) ∧ 0 ≤ y ∧ y < D 1 0)), zi (zb (¬ x = y)), zi (zb (((0 ≤ x ∧ x < D 1 0) ∧ 0 ≤ y ∧ y < D 1 0) ∧ hasDev D x.toNat u))] (sX10_passesAll (A := ((0 ≤ x ∧ x < D 1 0) ∧ 0 ≤ y ∧ y < D 1 0)) (B := (¬ x = y)) (C := (((0 ≤ x ∧ x < D 1 0) ∧ 0 ≤ y ∧ y < D 1 0) ∧ hasDev D x.toNat u)) hfl hz ) dX10_transferDevice_56 (by decide) rfl cw_RX10_462 okX10_passesAll rfl (Nat.le_of_ble_eq_true rfl) ⟨Nat.le_of_ble_eq_true rfl, Nat.le_of_ble_eq_true rfl, Nat.le_of_ble_eq_true rfl, Nat.le_of_ble_eq_true rfl⟩ ?_
            refine zy_cv [zi (zb (((0 ≤ x ∧ x < D 1 0) ∧ 0 ≤ y ∧ y < D 1 0) ∧ (¬ x = y) ∧ (((0 ≤ x ∧ x < D 1 0) ∧ 0 ≤ y ∧ y < D 1 0) ∧ hasDev D x.toNat u)))] (sX10_tried_f (A := (((0 ≤ x ∧ x < D 1 0) ∧ 0 ≤ y ∧ y < D 1 0) ∧ (¬ x = y) ∧ (((0 ≤ x ∧ x < D 1 0) ∧ 0 ≤ y ∧ y < D 1 0) ∧ hasDev D x.toNat u))) hfl (zOK_put hz (th3_r _ _ _)) (fun q => hw q.1)) dX10_transferDevice_59 (by decide) rfl cw_RX10_449 okX10_tried rfl (Nat.le_of_ble_eq_true rfl) ⟨Nat.le_of_ble_eq_true rfl, Nat.le_of_ble_eq_true rfl, Nat.le_of_ble_eq_true rfl, Nat.le_of_ble_eq_true rfl⟩ ?_
            refine zx_if_eq (tgt := 79) (by first | exact hz _ _ | assumption | exact zr_b _ | exact zcmp_r _ _ | (unfold zr at *; omega)) dX10_transferDevice_62 (by decide) (fun h62 => ?_) (fun h62 => ?_)
            · have h62 := zb_0.mp h62
              refine zx_iconst dX10_transferDevice_79 ?_
              refine zx_iret rfl rfl dX10_transferDevice_80 ?_
              rw [hQ]
              refine ⟨congrArg (fun z : Int => (Sum.inl (some (zi z)) : Option zV ⊕ String)) ?_, ?_⟩
              · rfl
              exact ⟨(zOK_put hz (th3_r _ _ _)), QP_th hR, (zput_s _ _ _ _).trans (th3_1 hw)⟩
            · have h62 := zb_n.mp h62
              exact absurd (by assumption : ((0 ≤ x ∧ x < D 1 0) ∧ 0 ≤ y ∧ y < D 1 0) ∧ (¬ x = y) ∧ (((0 ≤ x ∧ x < D 1 0) ∧ 0 ≤ y ∧ y < D 1 0) ∧ hasDev D x.toNat u)) (fun q => hw q.1)
          · have h48 := zb_n.mp h48
            refine zx_iconst dX10_transferDevice_51 ?_
            refine zx_goto (tgt := 56) dX10_transferDevice_52 (by decide) ?_
            refine zy_top (b := zb (((0 ≤ x ∧ x < D 1 0) ∧ 0 ≤ y ∧ y < D 1 0) ∧ hasDev D x.toNat u)) (by first | exact (zb_t (by exact ⟨by assumption, by assumption⟩)).symm | exact (zb_f (fun q => absurd q.1 (by assumption))).symm | exact (zb_f (fun q => absurd q.2 (by assumption))).symm) ?_
            refine zy_cv [zi (zb ((0 ≤ x ∧ x < D 1 0) ∧ 0 ≤ y ∧ y < D 1 0)), zi (zb (¬ x = y)), zi (zb (((0 ≤ x ∧ x < D 1 0) ∧ 0 ≤ y ∧ y < D 1 0) ∧ hasDev D x.toNat u))] (sX10_passesAll (A := ((0 ≤ x ∧ x < D 1 0) ∧ 0 ≤ y ∧ y < D 1 0)) (B := (¬ x = y)) (C := (((0 ≤ x ∧ x < D 1 0) ∧ 0 ≤ y ∧ y < D 1 0) ∧ hasDev D x.toNat u)) hfl hz ) dX10_transferDevice_56 (by decide) rfl cw_RX10_462 okX10_passesAll rfl (Nat.le_of_ble_eq_true rfl) ⟨Nat.le_of_ble_eq_true rfl, Nat.le_of_ble_eq_true rfl, Nat.le_of_ble_eq_true rfl, Nat.le_of_ble_eq_true rfl⟩ ?_
            refine zy_cv [zi (zb (((0 ≤ x ∧ x < D 1 0) ∧ 0 ≤ y ∧ y < D 1 0) ∧ (¬ x = y) ∧ (((0 ≤ x ∧ x < D 1 0) ∧ 0 ≤ y ∧ y < D 1 0) ∧ hasDev D x.toNat u)))] (sX10_tried_f (A := (((0 ≤ x ∧ x < D 1 0) ∧ 0 ≤ y ∧ y < D 1 0) ∧ (¬ x = y) ∧ (((0 ≤ x ∧ x < D 1 0) ∧ 0 ≤ y ∧ y < D 1 0) ∧ hasDev D x.toNat u))) hfl (zOK_put hz (th3_r _ _ _)) (fun q => hw q.1)) dX10_transferDevice_59 (by decide) rfl cw_RX10_449 okX10_tried rfl (Nat.le_of_ble_eq_true rfl) ⟨Nat.le_of_ble_eq_true rfl, Nat.le_of_ble_eq_true rfl, Nat.le_of_ble_eq_true rfl, Nat.le_of_ble_eq_true rfl⟩ ?_
            refine zx_if_eq (tgt := 79) (by first | exact hz _ _ | assumption | exact zr_b _ | exact zcmp_r _ _ | (unfold zr at *; omega)) dX10_transferDevice_62 (by decide) (fun h62 => ?_) (fun h62 => ?_)
            · have h62 := zb_0.mp h62
              refine zx_iconst dX10_transferDevice_79 ?_
              refine zx_iret rfl rfl dX10_transferDevice_80 ?_
              rw [hQ]
              refine ⟨congrArg (fun z : Int => (Sum.inl (some (zi z)) : Option zV ⊕ String)) ?_, ?_⟩
              · rfl
              exact ⟨(zOK_put hz (th3_r _ _ _)), QP_th hR, (zput_s _ _ _ _).trans (th3_1 hw)⟩
            · have h62 := zb_n.mp h62
              exact absurd (by assumption : ((0 ≤ x ∧ x < D 1 0) ∧ 0 ≤ y ∧ y < D 1 0) ∧ (¬ x = y) ∧ (((0 ≤ x ∧ x < D 1 0) ∧ 0 ≤ y ∧ y < D 1 0) ∧ hasDev D x.toNat u)) (fun q => hw q.1)
    · have h13 := zb_n.mp h13
      refine zx_iconst dX10_transferDevice_16 ?_
      refine zx_goto (tgt := 21) dX10_transferDevice_17 (by decide) ?_
      refine zy_top (b := zb ((0 ≤ x ∧ x < D 1 0) ∧ 0 ≤ y ∧ y < D 1 0)) (by first | exact (zb_t (by exact ⟨by assumption, by assumption⟩)).symm | exact (zb_f (fun q => absurd q.1 (by assumption))).symm | exact (zb_f (fun q => absurd q.2 (by assumption))).symm) ?_
      refine zy_istore [zf 10 261, zi x, zi y, zi u, zi (zb ((0 ≤ x ∧ x < D 1 0) ∧ 0 ≤ y ∧ y < D 1 0))] dX10_transferDevice_21 (Nat.le_of_ble_eq_true rfl) (Nat.le_of_ble_eq_true rfl) rfl rfl ?_
      refine zx_aloadN dX10_transferDevice_23 rfl rfl ?_
      refine zx_aloadN dX10_transferDevice_24 rfl rfl ?_
      refine zx_iload dX10_transferDevice_25 rfl ?_
      refine zx_iloadN dX10_transferDevice_27 rfl rfl ?_
      refine zx_iloadN dX10_transferDevice_28 rfl rfl ?_
      refine zx_icmp_eq (tgt := 36) (by first | exact hz _ _ | assumption | exact zr_b _ | exact zcmp_r _ _ | (unfold zr at *; omega)) (by first | exact hz _ _ | assumption | exact zr_b _ | exact zcmp_r _ _ | (unfold zr at *; omega)) dX10_transferDevice_29 (by decide) (fun h29 => ?_) (fun h29 => ?_)
      · refine zx_iconst dX10_transferDevice_36 ?_
        refine zy_top (b := zb (¬ x = y)) (by first | exact (zb_t (by assumption)).symm | exact (zb_t (by omega)).symm | exact (zb_f (by omega)).symm | exact (zb_f (by assumption)).symm | exact (zb_f (fun q => q (by assumption))).symm) ?_
        refine zx_iload dX10_transferDevice_37 rfl ?_
        refine zx_if_eq (tgt := 55) (by first | exact hz _ _ | assumption | exact zr_b _ | exact zcmp_r _ _ | (unfold zr at *; omega)) dX10_transferDevice_39 (by decide) (fun h39 => ?_) (fun h39 => ?_)
        · have h39 := zb_0.mp h39
          refine zx_iconst dX10_transferDevice_55 ?_
          refine zy_top (b := zb (((0 ≤ x ∧ x < D 1 0) ∧ 0 ≤ y ∧ y < D 1 0) ∧ hasDev D x.toNat u)) (by first | exact (zb_t (by exact ⟨by assumption, by assumption⟩)).symm | exact (zb_f (fun q => absurd q.1 (by assumption))).symm | exact (zb_f (fun q => absurd q.2 (by assumption))).symm) ?_
          refine zy_cv [zi (zb ((0 ≤ x ∧ x < D 1 0) ∧ 0 ≤ y ∧ y < D 1 0)), zi (zb (¬ x = y)), zi (zb (((0 ≤ x ∧ x < D 1 0) ∧ 0 ≤ y ∧ y < D 1 0) ∧ hasDev D x.toNat u))] (sX10_passesAll (A := ((0 ≤ x ∧ x < D 1 0) ∧ 0 ≤ y ∧ y < D 1 0)) (B := (¬ x = y)) (C := (((0 ≤ x ∧ x < D 1 0) ∧ 0 ≤ y ∧ y < D 1 0) ∧ hasDev D x.toNat u)) hfl hz ) dX10_transferDevice_56 (by decide) rfl cw_RX10_462 okX10_passesAll rfl (Nat.le_of_ble_eq_true rfl) ⟨Nat.le_of_ble_eq_true rfl, Nat.le_of_ble_eq_true rfl, Nat.le_of_ble_eq_true rfl, Nat.le_of_ble_eq_true rfl⟩ ?_
          refine zy_cv [zi (zb (((0 ≤ x ∧ x < D 1 0) ∧ 0 ≤ y ∧ y < D 1 0) ∧ (¬ x = y) ∧ (((0 ≤ x ∧ x < D 1 0) ∧ 0 ≤ y ∧ y < D 1 0) ∧ hasDev D x.toNat u)))] (sX10_tried_f (A := (((0 ≤ x ∧ x < D 1 0) ∧ 0 ≤ y ∧ y < D 1 0) ∧ (¬ x = y) ∧ (((0 ≤ x ∧ x < D 1 0) ∧ 0 ≤ y ∧ y < D 1 0) ∧ hasDev D x.toNat u))) hfl (zOK_put hz (th3_r _ _ _)) (fun q => hw q.1)) dX10_transferDevice_59 (by decide) rfl cw_RX10_449 okX10_tried rfl (Nat.le_of_ble_eq_true rfl) ⟨Nat.le_of_ble_eq_true rfl, Nat.le_of_ble_eq_true rfl, Nat.le_of_ble_eq_true rfl, Nat.le_of_ble_eq_true rfl⟩ ?_
          refine zx_if_eq (tgt := 79) (by first | exact hz _ _ | assumption | exact zr_b _ | exact zcmp_r _ _ | (unfold zr at *; omega)) dX10_transferDevice_62 (by decide) (fun h62 => ?_) (fun h62 => ?_)
          · have h62 := zb_0.mp h62
            refine zx_iconst dX10_transferDevice_79 ?_
            refine zx_iret rfl rfl dX10_transferDevice_80 ?_
            rw [hQ]
            refine ⟨congrArg (fun z : Int => (Sum.inl (some (zi z)) : Option zV ⊕ String)) ?_, ?_⟩
            · rfl
            exact ⟨(zOK_put hz (th3_r _ _ _)), QP_th hR, (zput_s _ _ _ _).trans (th3_1 hw)⟩
          · have h62 := zb_n.mp h62
            exact absurd (by assumption : ((0 ≤ x ∧ x < D 1 0) ∧ 0 ≤ y ∧ y < D 1 0) ∧ (¬ x = y) ∧ (((0 ≤ x ∧ x < D 1 0) ∧ 0 ≤ y ∧ y < D 1 0) ∧ hasDev D x.toNat u)) (fun q => hw q.1)
        · have h39 := zb_n.mp h39
          refine zx_aloadN dX10_transferDevice_42 rfl rfl ?_
          refine zx_iloadN dX10_transferDevice_43 rfl rfl ?_
          refine zy_top (b := ((x.toNat : Nat) : Int)) (by omega) ?_
          refine zx_iloadN dX10_transferDevice_44 rfl rfl ?_
          refine zy_cv [zi ((x.toNat : Nat) : Int), zi u] (sX10_ownsDevice (D := D) (p := x.toNat) hfl hz (by first | assumption | omega) (by first | assumption | (refine Rel_put (by decide) ?_; assumption) | (refine Rel_put (by decide) (Rel_put (by decide) ?_); assumption) | (refine Rel_put (by decide) (Rel_put (by decide) (Rel_put (by decide) ?_)); assumption)) (by first | assumption | omega) (by first | exact hz _ _ | assumption | exact zr_b _ | exact zcmp_r _ _ | (unfold zr at *; omega))) dX10_transferDevice_45 (by decide) rfl cw_RX10_90 okX10_ownsDevice rfl (Nat.le_of_ble_eq_true rfl) ⟨Nat.le_of_ble_eq_true rfl, Nat.le_of_ble_eq_true rfl, Nat.le_of_ble_eq_true rfl, Nat.le_of_ble_eq_true rfl⟩ ?_
          refine zx_if_eq (tgt := 55) (by first | exact hz _ _ | assumption | exact zr_b _ | exact zcmp_r _ _ | (unfold zr at *; omega)) dX10_transferDevice_48 (by decide) (fun h48 => ?_) (fun h48 => ?_)
          · have h48 := zb_0.mp h48
            refine zx_iconst dX10_transferDevice_55 ?_
            refine zy_top (b := zb (((0 ≤ x ∧ x < D 1 0) ∧ 0 ≤ y ∧ y < D 1 0) ∧ hasDev D x.toNat u)) (by first | exact (zb_t (by exact ⟨by assumption, by assumption⟩)).symm | exact (zb_f (fun q => absurd q.1 (by assumption))).symm | exact (zb_f (fun q => absurd q.2 (by assumption))).symm) ?_
            refine zy_cv [zi (zb ((0 ≤ x ∧ x < D 1 0) ∧ 0 ≤ y ∧ y < D 1 0)), zi (zb (¬ x = y)), zi (zb (((0 ≤ x ∧ x < D 1 0) ∧ 0 ≤ y ∧ y < D 1 0) ∧ hasDev D x.toNat u))] (sX10_passesAll (A := ((0 ≤ x ∧ x < D 1 0) ∧ 0 ≤ y ∧ y < D 1 0)) (B := (¬ x = y)) (C := (((0 ≤ x ∧ x < D 1 0) ∧ 0 ≤ y ∧ y < D 1 0) ∧ hasDev D x.toNat u)) hfl hz ) dX10_transferDevice_56 (by decide) rfl cw_RX10_462 okX10_passesAll rfl (Nat.le_of_ble_eq_true rfl) ⟨Nat.le_of_ble_eq_true rfl, Nat.le_of_ble_eq_true rfl, Nat.le_of_ble_eq_true rfl, Nat.le_of_ble_eq_true rfl⟩ ?_
            refine zy_cv [zi (zb (((0 ≤ x ∧ x < D 1 0) ∧ 0 ≤ y ∧ y < D 1 0) ∧ (¬ x = y) ∧ (((0 ≤ x ∧ x < D 1 0) ∧ 0 ≤ y ∧ y < D 1 0) ∧ hasDev D x.toNat u)))] (sX10_tried_f (A := (((0 ≤ x ∧ x < D 1 0) ∧ 0 ≤ y ∧ y < D 1 0) ∧ (¬ x = y) ∧ (((0 ≤ x ∧ x < D 1 0) ∧ 0 ≤ y ∧ y < D 1 0) ∧ hasDev D x.toNat u))) hfl (zOK_put hz (th3_r _ _ _)) (fun q => hw q.1)) dX10_transferDevice_59 (by decide) rfl cw_RX10_449 okX10_tried rfl (Nat.le_of_ble_eq_true rfl) ⟨Nat.le_of_ble_eq_true rfl, Nat.le_of_ble_eq_true rfl, Nat.le_of_ble_eq_true rfl, Nat.le_of_ble_eq_true rfl⟩ ?_
            refine zx_if_eq (tgt := 79) (by first | exact hz _ _ | assumption | exact zr_b _ | exact zcmp_r _ _ | (unfold zr at *; omega)) dX10_transferDevice_62 (by decide) (fun h62 => ?_) (fun h62 => ?_)
            · have h62 := zb_0.mp h62
              refine zx_iconst dX10_transferDevice_79 ?_
              refine zx_iret rfl rfl dX10_transferDevice_80 ?_
              rw [hQ]
              refine ⟨congrArg (fun z : Int => (Sum.inl (some (zi z)) : Option zV ⊕ String)) ?_, ?_⟩
              · rfl
              exact ⟨(zOK_put hz (th3_r _ _ _)), QP_th hR, (zput_s _ _ _ _).trans (th3_1 hw)⟩
            · have h62 := zb_n.mp h62
              exact absurd (by assumption : ((0 ≤ x ∧ x < D 1 0) ∧ 0 ≤ y ∧ y < D 1 0) ∧ (¬ x = y) ∧ (((0 ≤ x ∧ x < D 1 0) ∧ 0 ≤ y ∧ y < D 1 0) ∧ hasDev D x.toNat u)) (fun q => hw q.1)
          · have h48 := zb_n.mp h48
            refine zx_iconst dX10_transferDevice_51 ?_
            refine zx_goto (tgt := 56) dX10_transferDevice_52 (by decide) ?_
            refine zy_top (b := zb (((0 ≤ x ∧ x < D 1 0) ∧ 0 ≤ y ∧ y < D 1 0) ∧ hasDev D x.toNat u)) (by first | exact (zb_t (by exact ⟨by assumption, by assumption⟩)).symm | exact (zb_f (fun q => absurd q.1 (by assumption))).symm | exact (zb_f (fun q => absurd q.2 (by assumption))).symm) ?_
            refine zy_cv [zi (zb ((0 ≤ x ∧ x < D 1 0) ∧ 0 ≤ y ∧ y < D 1 0)), zi (zb (¬ x = y)), zi (zb (((0 ≤ x ∧ x < D 1 0) ∧ 0 ≤ y ∧ y < D 1 0) ∧ hasDev D x.toNat u))] (sX10_passesAll (A := ((0 ≤ x ∧ x < D 1 0) ∧ 0 ≤ y ∧ y < D 1 0)) (B := (¬ x = y)) (C := (((0 ≤ x ∧ x < D 1 0) ∧ 0 ≤ y ∧ y < D 1 0) ∧ hasDev D x.toNat u)) hfl hz ) dX10_transferDevice_56 (by decide) rfl cw_RX10_462 okX10_passesAll rfl (Nat.le_of_ble_eq_true rfl) ⟨Nat.le_of_ble_eq_true rfl, Nat.le_of_ble_eq_true rfl, Nat.le_of_ble_eq_true rfl, Nat.le_of_ble_eq_true rfl⟩ ?_
            refine zy_cv [zi (zb (((0 ≤ x ∧ x < D 1 0) ∧ 0 ≤ y ∧ y < D 1 0) ∧ (¬ x = y) ∧ (((0 ≤ x ∧ x < D 1 0) ∧ 0 ≤ y ∧ y < D 1 0) ∧ hasDev D x.toNat u)))] (sX10_tried_f (A := (((0 ≤ x ∧ x < D 1 0) ∧ 0 ≤ y ∧ y < D 1 0) ∧ (¬ x = y) ∧ (((0 ≤ x ∧ x < D 1 0) ∧ 0 ≤ y ∧ y < D 1 0) ∧ hasDev D x.toNat u))) hfl (zOK_put hz (th3_r _ _ _)) (fun q => hw q.1)) dX10_transferDevice_59 (by decide) rfl cw_RX10_449 okX10_tried rfl (Nat.le_of_ble_eq_true rfl) ⟨Nat.le_of_ble_eq_true rfl, Nat.le_of_ble_eq_true rfl, Nat.le_of_ble_eq_true rfl, Nat.le_of_ble_eq_true rfl⟩ ?_
            refine zx_if_eq (tgt := 79) (by first | exact hz _ _ | assumption | exact zr_b _ | exact zcmp_r _ _ | (unfold zr at *; omega)) dX10_transferDevice_62 (by decide) (fun h62 => ?_) (fun h62 => ?_)
            · have h62 := zb_0.mp h62
              refine zx_iconst dX10_transferDevice_79 ?_
              refine zx_iret rfl rfl dX10_transferDevice_80 ?_
              rw [hQ]
              refine ⟨congrArg (fun z : Int => (Sum.inl (some (zi z)) : Option zV ⊕ String)) ?_, ?_⟩
              · rfl
              exact ⟨(zOK_put hz (th3_r _ _ _)), QP_th hR, (zput_s _ _ _ _).trans (th3_1 hw)⟩
            · have h62 := zb_n.mp h62
              exact absurd (by assumption : ((0 ≤ x ∧ x < D 1 0) ∧ 0 ≤ y ∧ y < D 1 0) ∧ (¬ x = y) ∧ (((0 ≤ x ∧ x < D 1 0) ∧ 0 ≤ y ∧ y < D 1 0) ∧ hasDev D x.toNat u)) (fun q => hw q.1)
      · refine zx_iconst dX10_transferDevice_32 ?_
        refine zx_goto (tgt := 37) dX10_transferDevice_33 (by decide) ?_
        refine zy_top (b := zb (¬ x = y)) (by first | exact (zb_t (by assumption)).symm | exact (zb_t (by omega)).symm | exact (zb_f (by omega)).symm | exact (zb_f (by assumption)).symm | exact (zb_f (fun q => q (by assumption))).symm) ?_
        refine zx_iload dX10_transferDevice_37 rfl ?_
        refine zx_if_eq (tgt := 55) (by first | exact hz _ _ | assumption | exact zr_b _ | exact zcmp_r _ _ | (unfold zr at *; omega)) dX10_transferDevice_39 (by decide) (fun h39 => ?_) (fun h39 => ?_)
        · have h39 := zb_0.mp h39
          refine zx_iconst dX10_transferDevice_55 ?_
          refine zy_top (b := zb (((0 ≤ x ∧ x < D 1 0) ∧ 0 ≤ y ∧ y < D 1 0) ∧ hasDev D x.toNat u)) (by first | exact (zb_t (by exact ⟨by assumption, by assumption⟩)).symm | exact (zb_f (fun q => absurd q.1 (by assumption))).symm | exact (zb_f (fun q => absurd q.2 (by assumption))).symm) ?_
          refine zy_cv [zi (zb ((0 ≤ x ∧ x < D 1 0) ∧ 0 ≤ y ∧ y < D 1 0)), zi (zb (¬ x = y)), zi (zb (((0 ≤ x ∧ x < D 1 0) ∧ 0 ≤ y ∧ y < D 1 0) ∧ hasDev D x.toNat u))] (sX10_passesAll (A := ((0 ≤ x ∧ x < D 1 0) ∧ 0 ≤ y ∧ y < D 1 0)) (B := (¬ x = y)) (C := (((0 ≤ x ∧ x < D 1 0) ∧ 0 ≤ y ∧ y < D 1 0) ∧ hasDev D x.toNat u)) hfl hz ) dX10_transferDevice_56 (by decide) rfl cw_RX10_462 okX10_passesAll rfl (Nat.le_of_ble_eq_true rfl) ⟨Nat.le_of_ble_eq_true rfl, Nat.le_of_ble_eq_true rfl, Nat.le_of_ble_eq_true rfl, Nat.le_of_ble_eq_true rfl⟩ ?_
          refine zy_cv [zi (zb (((0 ≤ x ∧ x < D 1 0) ∧ 0 ≤ y ∧ y < D 1 0) ∧ (¬ x = y) ∧ (((0 ≤ x ∧ x < D 1 0) ∧ 0 ≤ y ∧ y < D 1 0) ∧ hasDev D x.toNat u)))] (sX10_tried_f (A := (((0 ≤ x ∧ x < D 1 0) ∧ 0 ≤ y ∧ y < D 1 0) ∧ (¬ x = y) ∧ (((0 ≤ x ∧ x < D 1 0) ∧ 0 ≤ y ∧ y < D 1 0) ∧ hasDev D x.toNat u))) hfl (zOK_put hz (th3_r _ _ _)) (fun q => hw q.1)) dX10_transferDevice_59 (by decide) rfl cw_RX10_449 okX10_tried rfl (Nat.le_of_ble_eq_true rfl) ⟨Nat.le_of_ble_eq_true rfl, Nat.le_of_ble_eq_true rfl, Nat.le_of_ble_eq_true rfl, Nat.le_of_ble_eq_true rfl⟩ ?_
          refine zx_if_eq (tgt := 79) (by first | exact hz _ _ | assumption | exact zr_b _ | exact zcmp_r _ _ | (unfold zr at *; omega)) dX10_transferDevice_62 (by decide) (fun h62 => ?_) (fun h62 => ?_)
          · have h62 := zb_0.mp h62
            refine zx_iconst dX10_transferDevice_79 ?_
            refine zx_iret rfl rfl dX10_transferDevice_80 ?_
            rw [hQ]
            refine ⟨congrArg (fun z : Int => (Sum.inl (some (zi z)) : Option zV ⊕ String)) ?_, ?_⟩
            · rfl
            exact ⟨(zOK_put hz (th3_r _ _ _)), QP_th hR, (zput_s _ _ _ _).trans (th3_1 hw)⟩
          · have h62 := zb_n.mp h62
            exact absurd (by assumption : ((0 ≤ x ∧ x < D 1 0) ∧ 0 ≤ y ∧ y < D 1 0) ∧ (¬ x = y) ∧ (((0 ≤ x ∧ x < D 1 0) ∧ 0 ≤ y ∧ y < D 1 0) ∧ hasDev D x.toNat u)) (fun q => hw q.1)
        · have h39 := zb_n.mp h39
          refine zx_aloadN dX10_transferDevice_42 rfl rfl ?_
          refine zx_iloadN dX10_transferDevice_43 rfl rfl ?_
          refine zy_top (b := ((x.toNat : Nat) : Int)) (by omega) ?_
          refine zx_iloadN dX10_transferDevice_44 rfl rfl ?_
          refine zy_cv [zi ((x.toNat : Nat) : Int), zi u] (sX10_ownsDevice (D := D) (p := x.toNat) hfl hz (by first | assumption | omega) (by first | assumption | (refine Rel_put (by decide) ?_; assumption) | (refine Rel_put (by decide) (Rel_put (by decide) ?_); assumption) | (refine Rel_put (by decide) (Rel_put (by decide) (Rel_put (by decide) ?_)); assumption)) (by first | assumption | omega) (by first | exact hz _ _ | assumption | exact zr_b _ | exact zcmp_r _ _ | (unfold zr at *; omega))) dX10_transferDevice_45 (by decide) rfl cw_RX10_90 okX10_ownsDevice rfl (Nat.le_of_ble_eq_true rfl) ⟨Nat.le_of_ble_eq_true rfl, Nat.le_of_ble_eq_true rfl, Nat.le_of_ble_eq_true rfl, Nat.le_of_ble_eq_true rfl⟩ ?_
          refine zx_if_eq (tgt := 55) (by first | exact hz _ _ | assumption | exact zr_b _ | exact zcmp_r _ _ | (unfold zr at *; omega)) dX10_transferDevice_48 (by decide) (fun h48 => ?_) (fun h48 => ?_)
          · have h48 := zb_0.mp h48
            refine zx_iconst dX10_transferDevice_55 ?_
            refine zy_top (b := zb (((0 ≤ x ∧ x < D 1 0) ∧ 0 ≤ y ∧ y < D 1 0) ∧ hasDev D x.toNat u)) (by first | exact (zb_t (by exact ⟨by assumption, by assumption⟩)).symm | exact (zb_f (fun q => absurd q.1 (by assumption))).symm | exact (zb_f (fun q => absurd q.2 (by assumption))).symm) ?_
            refine zy_cv [zi (zb ((0 ≤ x ∧ x < D 1 0) ∧ 0 ≤ y ∧ y < D 1 0)), zi (zb (¬ x = y)), zi (zb (((0 ≤ x ∧ x < D 1 0) ∧ 0 ≤ y ∧ y < D 1 0) ∧ hasDev D x.toNat u))] (sX10_passesAll (A := ((0 ≤ x ∧ x < D 1 0) ∧ 0 ≤ y ∧ y < D 1 0)) (B := (¬ x = y)) (C := (((0 ≤ x ∧ x < D 1 0) ∧ 0 ≤ y ∧ y < D 1 0) ∧ hasDev D x.toNat u)) hfl hz ) dX10_transferDevice_56 (by decide) rfl cw_RX10_462 okX10_passesAll rfl (Nat.le_of_ble_eq_true rfl) ⟨Nat.le_of_ble_eq_true rfl, Nat.le_of_ble_eq_true rfl, Nat.le_of_ble_eq_true rfl, Nat.le_of_ble_eq_true rfl⟩ ?_
            refine zy_cv [zi (zb (((0 ≤ x ∧ x < D 1 0) ∧ 0 ≤ y ∧ y < D 1 0) ∧ (¬ x = y) ∧ (((0 ≤ x ∧ x < D 1 0) ∧ 0 ≤ y ∧ y < D 1 0) ∧ hasDev D x.toNat u)))] (sX10_tried_f (A := (((0 ≤ x ∧ x < D 1 0) ∧ 0 ≤ y ∧ y < D 1 0) ∧ (¬ x = y) ∧ (((0 ≤ x ∧ x < D 1 0) ∧ 0 ≤ y ∧ y < D 1 0) ∧ hasDev D x.toNat u))) hfl (zOK_put hz (th3_r _ _ _)) (fun q => hw q.1)) dX10_transferDevice_59 (by decide) rfl cw_RX10_449 okX10_tried rfl (Nat.le_of_ble_eq_true rfl) ⟨Nat.le_of_ble_eq_true rfl, Nat.le_of_ble_eq_true rfl, Nat.le_of_ble_eq_true rfl, Nat.le_of_ble_eq_true rfl⟩ ?_
            refine zx_if_eq (tgt := 79) (by first | exact hz _ _ | assumption | exact zr_b _ | exact zcmp_r _ _ | (unfold zr at *; omega)) dX10_transferDevice_62 (by decide) (fun h62 => ?_) (fun h62 => ?_)
            · have h62 := zb_0.mp h62
              refine zx_iconst dX10_transferDevice_79 ?_
              refine zx_iret rfl rfl dX10_transferDevice_80 ?_
              rw [hQ]
              refine ⟨congrArg (fun z : Int => (Sum.inl (some (zi z)) : Option zV ⊕ String)) ?_, ?_⟩
              · rfl
              exact ⟨(zOK_put hz (th3_r _ _ _)), QP_th hR, (zput_s _ _ _ _).trans (th3_1 hw)⟩
            · have h62 := zb_n.mp h62
              exact absurd (by assumption : ((0 ≤ x ∧ x < D 1 0) ∧ 0 ≤ y ∧ y < D 1 0) ∧ (¬ x = y) ∧ (((0 ≤ x ∧ x < D 1 0) ∧ 0 ≤ y ∧ y < D 1 0) ∧ hasDev D x.toNat u)) (fun q => hw q.1)
          · have h48 := zb_n.mp h48
            refine zx_iconst dX10_transferDevice_51 ?_
            refine zx_goto (tgt := 56) dX10_transferDevice_52 (by decide) ?_
            refine zy_top (b := zb (((0 ≤ x ∧ x < D 1 0) ∧ 0 ≤ y ∧ y < D 1 0) ∧ hasDev D x.toNat u)) (by first | exact (zb_t (by exact ⟨by assumption, by assumption⟩)).symm | exact (zb_f (fun q => absurd q.1 (by assumption))).symm | exact (zb_f (fun q => absurd q.2 (by assumption))).symm) ?_
            refine zy_cv [zi (zb ((0 ≤ x ∧ x < D 1 0) ∧ 0 ≤ y ∧ y < D 1 0)), zi (zb (¬ x = y)), zi (zb (((0 ≤ x ∧ x < D 1 0) ∧ 0 ≤ y ∧ y < D 1 0) ∧ hasDev D x.toNat u))] (sX10_passesAll (A := ((0 ≤ x ∧ x < D 1 0) ∧ 0 ≤ y ∧ y < D 1 0)) (B := (¬ x = y)) (C := (((0 ≤ x ∧ x < D 1 0) ∧ 0 ≤ y ∧ y < D 1 0) ∧ hasDev D x.toNat u)) hfl hz ) dX10_transferDevice_56 (by decide) rfl cw_RX10_462 okX10_passesAll rfl (Nat.le_of_ble_eq_true rfl) ⟨Nat.le_of_ble_eq_true rfl, Nat.le_of_ble_eq_true rfl, Nat.le_of_ble_eq_true rfl, Nat.le_of_ble_eq_true rfl⟩ ?_
            refine zy_cv [zi (zb (((0 ≤ x ∧ x < D 1 0) ∧ 0 ≤ y ∧ y < D 1 0) ∧ (¬ x = y) ∧ (((0 ≤ x ∧ x < D 1 0) ∧ 0 ≤ y ∧ y < D 1 0) ∧ hasDev D x.toNat u)))] (sX10_tried_f (A := (((0 ≤ x ∧ x < D 1 0) ∧ 0 ≤ y ∧ y < D 1 0) ∧ (¬ x = y) ∧ (((0 ≤ x ∧ x < D 1 0) ∧ 0 ≤ y ∧ y < D 1 0) ∧ hasDev D x.toNat u))) hfl (zOK_put hz (th3_r _ _ _)) (fun q => hw q.1)) dX10_transferDevice_59 (by decide) rfl cw_RX10_449 okX10_tried rfl (Nat.le_of_ble_eq_true rfl) ⟨Nat.le_of_ble_eq_true rfl, Nat.le_of_ble_eq_true rfl, Nat.le_of_ble_eq_true rfl, Nat.le_of_ble_eq_true rfl⟩ ?_
            refine zx_if_eq (tgt := 79) (by first | exact hz _ _ | assumption | exact zr_b _ | exact zcmp_r _ _ | (unfold zr at *; omega)) dX10_transferDevice_62 (by decide) (fun h62 => ?_) (fun h62 => ?_)
            · have h62 := zb_0.mp h62
              refine zx_iconst dX10_transferDevice_79 ?_
              refine zx_iret rfl rfl dX10_transferDevice_80 ?_
              rw [hQ]
              refine ⟨congrArg (fun z : Int => (Sum.inl (some (zi z)) : Option zV ⊕ String)) ?_, ?_⟩
              · rfl
              exact ⟨(zOK_put hz (th3_r _ _ _)), QP_th hR, (zput_s _ _ _ _).trans (th3_1 hw)⟩
            · have h62 := zb_n.mp h62
              exact absurd (by assumption : ((0 ≤ x ∧ x < D 1 0) ∧ 0 ≤ y ∧ y < D 1 0) ∧ (¬ x = y) ∧ (((0 ≤ x ∧ x < D 1 0) ∧ 0 ≤ y ∧ y < D 1 0) ∧ hasDev D x.toNat u)) (fun q => hw q.1)
set_option maxRecDepth 20000 in
set_option maxHeartbeats 2000000 in
theorem sX10_transferDevice_t2 {l : Launch} {w : zW} (hfl : l.stackTraces = false) {σ : zS} {D : zBk} {x y u : Int} (hz : zOK σ) (hW : WF D) (hR : Rel D (σ.1 262)) (hx : zr x) (hy : zr y) (hu : zr u) (hw : (0 ≤ x ∧ x < D 1 0) ∧ 0 ≤ y ∧ y < D 1 0) (hw2 : x = y) : Sp l w mX10_transferDevice 5 0 [zf 10 261, zi x, zi y, zi u] σ (zqv (some (zi 0)) (fun τ => zOK τ ∧ QP D σ τ ∧ τ.1 261 6 = 2)) := by
  obtain ⟨Q, hQ⟩ : ∃ Q : zQ, Q = (zqv (some (zi 0)) (fun τ => zOK τ ∧ QP D σ τ ∧ τ.1 261 6 = 2)) := ⟨_, rfl⟩
  rw [← hQ]
  refine zx_enter hfl (by decide) rfl 1 rfl ?_
  show zX l w mX10_transferDevice (zMQ w 5 0 Q) 0 [zf 10 261, zi x, zi y, zi u, zu] [] 0 σ
  have hP : 0 ≤ D 1 0 ∧ D 1 0 ≤ 8 := hW.1.1
  have hM : 0 ≤ D 1 7 ∧ D 1 7 ≤ 8 := hW.1.2.1
  have hE : 0 ≤ D 1 10 ∧ D 1 10 ≤ 12 := hW.1.2.2.1
  have hK : 0 ≤ D 12 0 ∧ D 12 0 ≤ 40 := hW.1.2.2.2
  have r0 : σ.1 262 0 = D 1 0 := hR.1.1
  have r1 : σ.1 262 1 = D 1 7 := hR.1.2.1
  have r2 : σ.1 262 2 = D 1 10 := hR.1.2.2.1
  have r3 : σ.1 262 3 = D 12 0 := hR.1.2.2.2
  refine zx_aloadN dX10_transferDevice_0 rfl rfl ?_
  refine zx_iloadN dX10_transferDevice_1 rfl rfl ?_
  refine zy_cv [zi x] (sX10_isPrinter (D := D) hfl hz (by first | assumption | omega) (by first | assumption | (refine Rel_put (by decide) ?_; assumption) | (refine Rel_put (by decide) (Rel_put (by decide) ?_); assumption) | (refine Rel_put (by decide) (Rel_put (by decide) (Rel_put (by decide) ?_)); assumption)) (by first | exact hz _ _ | assumption | exact zr_b _ | exact zcmp_r _ _ | (unfold zr at *; omega))) dX10_transferDevice_2 (by decide) rfl cw_RX10_400 okX10_isPrinter rfl (Nat.le_of_ble_eq_true rfl) ⟨Nat.le_of_ble_eq_true rfl, Nat.le_of_ble_eq_true rfl, Nat.le_of_ble_eq_true rfl, Nat.le_of_ble_eq_true rfl⟩ ?_
  refine zx_if_eq (tgt := 20) (by first | exact hz _ _ | assumption | exact zr_b _ | exact zcmp_r _ _ | (unfold zr at *; omega)) dX10_transferDevice_5 (by decide) (fun h5 => ?_) (fun h5 => ?_)
  · have h5 := zb_0.mp h5
    refine zx_iconst dX10_transferDevice_20 ?_
    refine zy_top (b := zb ((0 ≤ x ∧ x < D 1 0) ∧ 0 ≤ y ∧ y < D 1 0)) (by first | exact (zb_t (by exact ⟨by assumption, by assumption⟩)).symm | exact (zb_f (fun q => absurd q.1 (by assumption))).symm | exact (zb_f (fun q => absurd q.2 (by assumption))).symm) ?_
    refine zy_istore [zf 10 261, zi x, zi y, zi u, zi (zb ((0 ≤ x ∧ x < D 1 0) ∧ 0 ≤ y ∧ y < D 1 0))] dX10_transferDevice_21 (Nat.le_of_ble_eq_true rfl) (Nat.le_of_ble_eq_true rfl) rfl rfl ?_
    refine zx_aloadN dX10_transferDevice_23 rfl rfl ?_
    refine zx_aloadN dX10_transferDevice_24 rfl rfl ?_
    refine zx_iload dX10_transferDevice_25 rfl ?_
    refine zx_iloadN dX10_transferDevice_27 rfl rfl ?_
    refine zx_iloadN dX10_transferDevice_28 rfl rfl ?_
    refine zx_icmp_eq (tgt := 36) (by first | exact hz _ _ | assumption | exact zr_b _ | exact zcmp_r _ _ | (unfold zr at *; omega)) (by first | exact hz _ _ | assumption | exact zr_b _ | exact zcmp_r _ _ | (unfold zr at *; omega)) dX10_transferDevice_29 (by decide) (fun h29 => ?_) (fun h29 => ?_)
    · refine zx_iconst dX10_transferDevice_36 ?_
      refine zy_top (b := zb (¬ x = y)) (by first | exact (zb_t (by assumption)).symm | exact (zb_t (by omega)).symm | exact (zb_f (by omega)).symm | exact (zb_f (by assumption)).symm | exact (zb_f (fun q => q (by assumption))).symm) ?_
      refine zx_iload dX10_transferDevice_37 rfl ?_
      refine zx_if_eq (tgt := 55) (by first | exact hz _ _ | assumption | exact zr_b _ | exact zcmp_r _ _ | (unfold zr at *; omega)) dX10_transferDevice_39 (by decide) (fun h39 => ?_) (fun h39 => ?_)
      · have h39 := zb_0.mp h39
        refine zx_iconst dX10_transferDevice_55 ?_
        refine zy_top (b := zb (((0 ≤ x ∧ x < D 1 0) ∧ 0 ≤ y ∧ y < D 1 0) ∧ hasDev D x.toNat u)) (by first | exact (zb_t (by exact ⟨by assumption, by assumption⟩)).symm | exact (zb_f (fun q => absurd q.1 (by assumption))).symm | exact (zb_f (fun q => absurd q.2 (by assumption))).symm) ?_
        refine zy_cv [zi (zb ((0 ≤ x ∧ x < D 1 0) ∧ 0 ≤ y ∧ y < D 1 0)), zi (zb (¬ x = y)), zi (zb (((0 ≤ x ∧ x < D 1 0) ∧ 0 ≤ y ∧ y < D 1 0) ∧ hasDev D x.toNat u))] (sX10_passesAll (A := ((0 ≤ x ∧ x < D 1 0) ∧ 0 ≤ y ∧ y < D 1 0)) (B := (¬ x = y)) (C := (((0 ≤ x ∧ x < D 1 0) ∧ 0 ≤ y ∧ y < D 1 0) ∧ hasDev D x.toNat u)) hfl hz ) dX10_transferDevice_56 (by decide) rfl cw_RX10_462 okX10_passesAll rfl (Nat.le_of_ble_eq_true rfl) ⟨Nat.le_of_ble_eq_true rfl, Nat.le_of_ble_eq_true rfl, Nat.le_of_ble_eq_true rfl, Nat.le_of_ble_eq_true rfl⟩ ?_
        refine zy_cv [zi (zb (((0 ≤ x ∧ x < D 1 0) ∧ 0 ≤ y ∧ y < D 1 0) ∧ (¬ x = y) ∧ (((0 ≤ x ∧ x < D 1 0) ∧ 0 ≤ y ∧ y < D 1 0) ∧ hasDev D x.toNat u)))] (sX10_tried_f (A := (((0 ≤ x ∧ x < D 1 0) ∧ 0 ≤ y ∧ y < D 1 0) ∧ (¬ x = y) ∧ (((0 ≤ x ∧ x < D 1 0) ∧ 0 ≤ y ∧ y < D 1 0) ∧ hasDev D x.toNat u))) hfl (zOK_put hz (th3_r _ _ _)) (fun q => q.2.1 hw2)) dX10_transferDevice_59 (by decide) rfl cw_RX10_449 okX10_tried rfl (Nat.le_of_ble_eq_true rfl) ⟨Nat.le_of_ble_eq_true rfl, Nat.le_of_ble_eq_true rfl, Nat.le_of_ble_eq_true rfl, Nat.le_of_ble_eq_true rfl⟩ ?_
        refine zx_if_eq (tgt := 79) (by first | exact hz _ _ | assumption | exact zr_b _ | exact zcmp_r _ _ | (unfold zr at *; omega)) dX10_transferDevice_62 (by decide) (fun h62 => ?_) (fun h62 => ?_)
        · have h62 := zb_0.mp h62
          refine zx_iconst dX10_transferDevice_79 ?_
          refine zx_iret rfl rfl dX10_transferDevice_80 ?_
          rw [hQ]
          refine ⟨congrArg (fun z : Int => (Sum.inl (some (zi z)) : Option zV ⊕ String)) ?_, ?_⟩
          · rfl
          exact ⟨(zOK_put hz (th3_r _ _ _)), QP_th hR, (zput_s _ _ _ _).trans (th3_2 hw (fun q => q hw2))⟩
        · have h62 := zb_n.mp h62
          exact absurd (by assumption : ((0 ≤ x ∧ x < D 1 0) ∧ 0 ≤ y ∧ y < D 1 0) ∧ (¬ x = y) ∧ (((0 ≤ x ∧ x < D 1 0) ∧ 0 ≤ y ∧ y < D 1 0) ∧ hasDev D x.toNat u)) (fun q => q.2.1 hw2)
      · have h39 := zb_n.mp h39
        refine zx_aloadN dX10_transferDevice_42 rfl rfl ?_
        refine zx_iloadN dX10_transferDevice_43 rfl rfl ?_
        refine zy_top (b := ((x.toNat : Nat) : Int)) (by omega) ?_
        refine zx_iloadN dX10_transferDevice_44 rfl rfl ?_
        refine zy_cv [zi ((x.toNat : Nat) : Int), zi u] (sX10_ownsDevice (D := D) (p := x.toNat) hfl hz (by first | assumption | omega) (by first | assumption | (refine Rel_put (by decide) ?_; assumption) | (refine Rel_put (by decide) (Rel_put (by decide) ?_); assumption) | (refine Rel_put (by decide) (Rel_put (by decide) (Rel_put (by decide) ?_)); assumption)) (by first | assumption | omega) (by first | exact hz _ _ | assumption | exact zr_b _ | exact zcmp_r _ _ | (unfold zr at *; omega))) dX10_transferDevice_45 (by decide) rfl cw_RX10_90 okX10_ownsDevice rfl (Nat.le_of_ble_eq_true rfl) ⟨Nat.le_of_ble_eq_true rfl, Nat.le_of_ble_eq_true rfl, Nat.le_of_ble_eq_true rfl, Nat.le_of_ble_eq_true rfl⟩ ?_
        refine zx_if_eq (tgt := 55) (by first | exact hz _ _ | assumption | exact zr_b _ | exact zcmp_r _ _ | (unfold zr at *; omega)) dX10_transferDevice_48 (by decide) (fun h48 => ?_) (fun h48 => ?_)
        · have h48 := zb_0.mp h48
          refine zx_iconst dX10_transferDevice_55 ?_
          refine zy_top (b := zb (((0 ≤ x ∧ x < D 1 0) ∧ 0 ≤ y ∧ y < D 1 0) ∧ hasDev D x.toNat u)) (by first | exact (zb_t (by exact ⟨by assumption, by assumption⟩)).symm | exact (zb_f (fun q => absurd q.1 (by assumption))).symm | exact (zb_f (fun q => absurd q.2 (by assumption))).symm) ?_
          refine zy_cv [zi (zb ((0 ≤ x ∧ x < D 1 0) ∧ 0 ≤ y ∧ y < D 1 0)), zi (zb (¬ x = y)), zi (zb (((0 ≤ x ∧ x < D 1 0) ∧ 0 ≤ y ∧ y < D 1 0) ∧ hasDev D x.toNat u))] (sX10_passesAll (A := ((0 ≤ x ∧ x < D 1 0) ∧ 0 ≤ y ∧ y < D 1 0)) (B := (¬ x = y)) (C := (((0 ≤ x ∧ x < D 1 0) ∧ 0 ≤ y ∧ y < D 1 0) ∧ hasDev D x.toNat u)) hfl hz ) dX10_transferDevice_56 (by decide) rfl cw_RX10_462 okX10_passesAll rfl (Nat.le_of_ble_eq_true rfl) ⟨Nat.le_of_ble_eq_true rfl, Nat.le_of_ble_eq_true rfl, Nat.le_of_ble_eq_true rfl, Nat.le_of_ble_eq_true rfl⟩ ?_
          refine zy_cv [zi (zb (((0 ≤ x ∧ x < D 1 0) ∧ 0 ≤ y ∧ y < D 1 0) ∧ (¬ x = y) ∧ (((0 ≤ x ∧ x < D 1 0) ∧ 0 ≤ y ∧ y < D 1 0) ∧ hasDev D x.toNat u)))] (sX10_tried_f (A := (((0 ≤ x ∧ x < D 1 0) ∧ 0 ≤ y ∧ y < D 1 0) ∧ (¬ x = y) ∧ (((0 ≤ x ∧ x < D 1 0) ∧ 0 ≤ y ∧ y < D 1 0) ∧ hasDev D x.toNat u))) hfl (zOK_put hz (th3_r _ _ _)) (fun q => q.2.1 hw2)) dX10_transferDevice_59 (by decide) rfl cw_RX10_449 okX10_tried rfl (Nat.le_of_ble_eq_true rfl) ⟨Nat.le_of_ble_eq_true rfl, Nat.le_of_ble_eq_true rfl, Nat.le_of_ble_eq_true rfl, Nat.le_of_ble_eq_true rfl⟩ ?_
          refine zx_if_eq (tgt := 79) (by first | exact hz _ _ | assumption | exact zr_b _ | exact zcmp_r _ _ | (unfold zr at *; omega)) dX10_transferDevice_62 (by decide) (fun h62 => ?_) (fun h62 => ?_)
          · have h62 := zb_0.mp h62
            refine zx_iconst dX10_transferDevice_79 ?_
            refine zx_iret rfl rfl dX10_transferDevice_80 ?_
            rw [hQ]
            refine ⟨congrArg (fun z : Int => (Sum.inl (some (zi z)) : Option zV ⊕ String)) ?_, ?_⟩
            · rfl
            exact ⟨(zOK_put hz (th3_r _ _ _)), QP_th hR, (zput_s _ _ _ _).trans (th3_2 hw (fun q => q hw2))⟩
          · have h62 := zb_n.mp h62
            exact absurd (by assumption : ((0 ≤ x ∧ x < D 1 0) ∧ 0 ≤ y ∧ y < D 1 0) ∧ (¬ x = y) ∧ (((0 ≤ x ∧ x < D 1 0) ∧ 0 ≤ y ∧ y < D 1 0) ∧ hasDev D x.toNat u)) (fun q => q.2.1 hw2)
        · have h48 := zb_n.mp h48
          refine zx_iconst dX10_transferDevice_51 ?_
          refine zx_goto (tgt := 56) dX10_transferDevice_52 (by decide) ?_
          refine zy_top (b := zb (((0 ≤ x ∧ x < D 1 0) ∧ 0 ≤ y ∧ y < D 1 0) ∧ hasDev D x.toNat u)) (by first | exact (zb_t (by exact ⟨by assumption, by assumption⟩)).symm | exact (zb_f (fun q => absurd q.1 (by assumption))).symm | exact (zb_f (fun q => absurd q.2 (by assumption))).symm) ?_
          refine zy_cv [zi (zb ((0 ≤ x ∧ x < D 1 0) ∧ 0 ≤ y ∧ y < D 1 0)), zi (zb (¬ x = y)), zi (zb (((0 ≤ x ∧ x < D 1 0) ∧ 0 ≤ y ∧ y < D 1 0) ∧ hasDev D x.toNat u))] (sX10_passesAll (A := ((0 ≤ x ∧ x < D 1 0) ∧ 0 ≤ y ∧ y < D 1 0)) (B := (¬ x = y)) (C := (((0 ≤ x ∧ x < D 1 0) ∧ 0 ≤ y ∧ y < D 1 0) ∧ hasDev D x.toNat u)) hfl hz ) dX10_transferDevice_56 (by decide) rfl cw_RX10_462 okX10_passesAll rfl (Nat.le_of_ble_eq_true rfl) ⟨Nat.le_of_ble_eq_true rfl, Nat.le_of_ble_eq_true rfl, Nat.le_of_ble_eq_true rfl, Nat.le_of_ble_eq_true rfl⟩ ?_
          refine zy_cv [zi (zb (((0 ≤ x ∧ x < D 1 0) ∧ 0 ≤ y ∧ y < D 1 0) ∧ (¬ x = y) ∧ (((0 ≤ x ∧ x < D 1 0) ∧ 0 ≤ y ∧ y < D 1 0) ∧ hasDev D x.toNat u)))] (sX10_tried_f (A := (((0 ≤ x ∧ x < D 1 0) ∧ 0 ≤ y ∧ y < D 1 0) ∧ (¬ x = y) ∧ (((0 ≤ x ∧ x < D 1 0) ∧ 0 ≤ y ∧ y < D 1 0) ∧ hasDev D x.toNat u))) hfl (zOK_put hz (th3_r _ _ _)) (fun q => q.2.1 hw2)) dX10_transferDevice_59 (by decide) rfl cw_RX10_449 okX10_tried rfl (Nat.le_of_ble_eq_true rfl) ⟨Nat.le_of_ble_eq_true rfl, Nat.le_of_ble_eq_true rfl, Nat.le_of_ble_eq_true rfl, Nat.le_of_ble_eq_true rfl⟩ ?_
          refine zx_if_eq (tgt := 79) (by first | exact hz _ _ | assumption | exact zr_b _ | exact zcmp_r _ _ | (unfold zr at *; omega)) dX10_transferDevice_62 (by decide) (fun h62 => ?_) (fun h62 => ?_)
          · have h62 := zb_0.mp h62
            refine zx_iconst dX10_transferDevice_79 ?_
            refine zx_iret rfl rfl dX10_transferDevice_80 ?_
            rw [hQ]
            refine ⟨congrArg (fun z : Int => (Sum.inl (some (zi z)) : Option zV ⊕ String)) ?_, ?_⟩
            · rfl
            exact ⟨(zOK_put hz (th3_r _ _ _)), QP_th hR, (zput_s _ _ _ _).trans (th3_2 hw (fun q => q hw2))⟩
          · have h62 := zb_n.mp h62
            exact absurd (by assumption : ((0 ≤ x ∧ x < D 1 0) ∧ 0 ≤ y ∧ y < D 1 0) ∧ (¬ x = y) ∧ (((0 ≤ x ∧ x < D 1 0) ∧ 0 ≤ y ∧ y < D 1 0) ∧ hasDev D x.toNat u)) (fun q => q.2.1 hw2)
    · refine zx_iconst dX10_transferDevice_32 ?_
      refine zx_goto (tgt := 37) dX10_transferDevice_33 (by decide) ?_
      refine zy_top (b := zb (¬ x = y)) (by first | exact (zb_t (by assumption)).symm | exact (zb_t (by omega)).symm | exact (zb_f (by omega)).symm | exact (zb_f (by assumption)).symm | exact (zb_f (fun q => q (by assumption))).symm) ?_
      refine zx_iload dX10_transferDevice_37 rfl ?_
      refine zx_if_eq (tgt := 55) (by first | exact hz _ _ | assumption | exact zr_b _ | exact zcmp_r _ _ | (unfold zr at *; omega)) dX10_transferDevice_39 (by decide) (fun h39 => ?_) (fun h39 => ?_)
      · have h39 := zb_0.mp h39
        refine zx_iconst dX10_transferDevice_55 ?_
        refine zy_top (b := zb (((0 ≤ x ∧ x < D 1 0) ∧ 0 ≤ y ∧ y < D 1 0) ∧ hasDev D x.toNat u)) (by first | exact (zb_t (by exact ⟨by assumption, by assumption⟩)).symm | exact (zb_f (fun q => absurd q.1 (by assumption))).symm | exact (zb_f (fun q => absurd q.2 (by assumption))).symm) ?_
        refine zy_cv [zi (zb ((0 ≤ x ∧ x < D 1 0) ∧ 0 ≤ y ∧ y < D 1 0)), zi (zb (¬ x = y)), zi (zb (((0 ≤ x ∧ x < D 1 0) ∧ 0 ≤ y ∧ y < D 1 0) ∧ hasDev D x.toNat u))] (sX10_passesAll (A := ((0 ≤ x ∧ x < D 1 0) ∧ 0 ≤ y ∧ y < D 1 0)) (B := (¬ x = y)) (C := (((0 ≤ x ∧ x < D 1 0) ∧ 0 ≤ y ∧ y < D 1 0) ∧ hasDev D x.toNat u)) hfl hz ) dX10_transferDevice_56 (by decide) rfl cw_RX10_462 okX10_passesAll rfl (Nat.le_of_ble_eq_true rfl) ⟨Nat.le_of_ble_eq_true rfl, Nat.le_of_ble_eq_true rfl, Nat.le_of_ble_eq_true rfl, Nat.le_of_ble_eq_true rfl⟩ ?_
        refine zy_cv [zi (zb (((0 ≤ x ∧ x < D 1 0) ∧ 0 ≤ y ∧ y < D 1 0) ∧ (¬ x = y) ∧ (((0 ≤ x ∧ x < D 1 0) ∧ 0 ≤ y ∧ y < D 1 0) ∧ hasDev D x.toNat u)))] (sX10_tried_f (A := (((0 ≤ x ∧ x < D 1 0) ∧ 0 ≤ y ∧ y < D 1 0) ∧ (¬ x = y) ∧ (((0 ≤ x ∧ x < D 1 0) ∧ 0 ≤ y ∧ y < D 1 0) ∧ hasDev D x.toNat u))) hfl (zOK_put hz (th3_r _ _ _)) (fun q => q.2.1 hw2)) dX10_transferDevice_59 (by decide) rfl cw_RX10_449 okX10_tried rfl (Nat.le_of_ble_eq_true rfl) ⟨Nat.le_of_ble_eq_true rfl, Nat.le_of_ble_eq_true rfl, Nat.le_of_ble_eq_true rfl, Nat.le_of_ble_eq_true rfl⟩ ?_
        refine zx_if_eq (tgt := 79) (by first | exact hz _ _ | assumption | exact zr_b _ | exact zcmp_r _ _ | (unfold zr at *; omega)) dX10_transferDevice_62 (by decide) (fun h62 => ?_) (fun h62 => ?_)
        · have h62 := zb_0.mp h62
          refine zx_iconst dX10_transferDevice_79 ?_
          refine zx_iret rfl rfl dX10_transferDevice_80 ?_
          rw [hQ]
          refine ⟨congrArg (fun z : Int => (Sum.inl (some (zi z)) : Option zV ⊕ String)) ?_, ?_⟩
          · rfl
          exact ⟨(zOK_put hz (th3_r _ _ _)), QP_th hR, (zput_s _ _ _ _).trans (th3_2 hw (fun q => q hw2))⟩
        · have h62 := zb_n.mp h62
          exact absurd (by assumption : ((0 ≤ x ∧ x < D 1 0) ∧ 0 ≤ y ∧ y < D 1 0) ∧ (¬ x = y) ∧ (((0 ≤ x ∧ x < D 1 0) ∧ 0 ≤ y ∧ y < D 1 0) ∧ hasDev D x.toNat u)) (fun q => q.2.1 hw2)
      · have h39 := zb_n.mp h39
        refine zx_aloadN dX10_transferDevice_42 rfl rfl ?_
        refine zx_iloadN dX10_transferDevice_43 rfl rfl ?_
        refine zy_top (b := ((x.toNat : Nat) : Int)) (by omega) ?_
        refine zx_iloadN dX10_transferDevice_44 rfl rfl ?_
        refine zy_cv [zi ((x.toNat : Nat) : Int), zi u] (sX10_ownsDevice (D := D) (p := x.toNat) hfl hz (by first | assumption | omega) (by first | assumption | (refine Rel_put (by decide) ?_; assumption) | (refine Rel_put (by decide) (Rel_put (by decide) ?_); assumption) | (refine Rel_put (by decide) (Rel_put (by decide) (Rel_put (by decide) ?_)); assumption)) (by first | assumption | omega) (by first | exact hz _ _ | assumption | exact zr_b _ | exact zcmp_r _ _ | (unfold zr at *; omega))) dX10_transferDevice_45 (by decide) rfl cw_RX10_90 okX10_ownsDevice rfl (Nat.le_of_ble_eq_true rfl) ⟨Nat.le_of_ble_eq_true rfl, Nat.le_of_ble_eq_true rfl, Nat.le_of_ble_eq_true rfl, Nat.le_of_ble_eq_true rfl⟩ ?_
        refine zx_if_eq (tgt := 55) (by first | exact hz _ _ | assumption | exact zr_b _ | exact zcmp_r _ _ | (unfold zr at *; omega)) dX10_transferDevice_48 (by decide) (fun h48 => ?_) (fun h48 => ?_)
        · have h48 := zb_0.mp h48
          refine zx_iconst dX10_transferDevice_55 ?_
          refine zy_top (b := zb (((0 ≤ x ∧ x < D 1 0) ∧ 0 ≤ y ∧ y < D 1 0) ∧ hasDev D x.toNat u)) (by first | exact (zb_t (by exact ⟨by assumption, by assumption⟩)).symm | exact (zb_f (fun q => absurd q.1 (by assumption))).symm | exact (zb_f (fun q => absurd q.2 (by assumption))).symm) ?_
          refine zy_cv [zi (zb ((0 ≤ x ∧ x < D 1 0) ∧ 0 ≤ y ∧ y < D 1 0)), zi (zb (¬ x = y)), zi (zb (((0 ≤ x ∧ x < D 1 0) ∧ 0 ≤ y ∧ y < D 1 0) ∧ hasDev D x.toNat u))] (sX10_passesAll (A := ((0 ≤ x ∧ x < D 1 0) ∧ 0 ≤ y ∧ y < D 1 0)) (B := (¬ x = y)) (C := (((0 ≤ x ∧ x < D 1 0) ∧ 0 ≤ y ∧ y < D 1 0) ∧ hasDev D x.toNat u)) hfl hz ) dX10_transferDevice_56 (by decide) rfl cw_RX10_462 okX10_passesAll rfl (Nat.le_of_ble_eq_true rfl) ⟨Nat.le_of_ble_eq_true rfl, Nat.le_of_ble_eq_true rfl, Nat.le_of_ble_eq_true rfl, Nat.le_of_ble_eq_true rfl⟩ ?_
          refine zy_cv [zi (zb (((0 ≤ x ∧ x < D 1 0) ∧ 0 ≤ y ∧ y < D 1 0) ∧ (¬ x = y) ∧ (((0 ≤ x ∧ x < D 1 0) ∧ 0 ≤ y ∧ y < D 1 0) ∧ hasDev D x.toNat u)))] (sX10_tried_f (A := (((0 ≤ x ∧ x < D 1 0) ∧ 0 ≤ y ∧ y < D 1 0) ∧ (¬ x = y) ∧ (((0 ≤ x ∧ x < D 1 0) ∧ 0 ≤ y ∧ y < D 1 0) ∧ hasDev D x.toNat u))) hfl (zOK_put hz (th3_r _ _ _)) (fun q => q.2.1 hw2)) dX10_transferDevice_59 (by decide) rfl cw_RX10_449 okX10_tried rfl (Nat.le_of_ble_eq_true rfl) ⟨Nat.le_of_ble_eq_true rfl, Nat.le_of_ble_eq_true rfl, Nat.le_of_ble_eq_true rfl, Nat.le_of_ble_eq_true rfl⟩ ?_
          refine zx_if_eq (tgt := 79) (by first | exact hz _ _ | assumption | exact zr_b _ | exact zcmp_r _ _ | (unfold zr at *; omega)) dX10_transferDevice_62 (by decide) (fun h62 => ?_) (fun h62 => ?_)
          · have h62 := zb_0.mp h62
            refine zx_iconst dX10_transferDevice_79 ?_
            refine zx_iret rfl rfl dX10_transferDevice_80 ?_
            rw [hQ]
            refine ⟨congrArg (fun z : Int => (Sum.inl (some (zi z)) : Option zV ⊕ String)) ?_, ?_⟩
            · rfl
            exact ⟨(zOK_put hz (th3_r _ _ _)), QP_th hR, (zput_s _ _ _ _).trans (th3_2 hw (fun q => q hw2))⟩
          · have h62 := zb_n.mp h62
            exact absurd (by assumption : ((0 ≤ x ∧ x < D 1 0) ∧ 0 ≤ y ∧ y < D 1 0) ∧ (¬ x = y) ∧ (((0 ≤ x ∧ x < D 1 0) ∧ 0 ≤ y ∧ y < D 1 0) ∧ hasDev D x.toNat u)) (fun q => q.2.1 hw2)
        · have h48 := zb_n.mp h48
          refine zx_iconst dX10_transferDevice_51 ?_
          refine zx_goto (tgt := 56) dX10_transferDevice_52 (by decide) ?_
          refine zy_top (b := zb (((0 ≤ x ∧ x < D 1 0) ∧ 0 ≤ y ∧ y < D 1 0) ∧ hasDev D x.toNat u)) (by first | exact (zb_t (by exact ⟨by assumption, by assumption⟩)).symm | exact (zb_f (fun q => absurd q.1 (by assumption))).symm | exact (zb_f (fun q => absurd q.2 (by assumption))).symm) ?_
          refine zy_cv [zi (zb ((0 ≤ x ∧ x < D 1 0) ∧ 0 ≤ y ∧ y < D 1 0)), zi (zb (¬ x = y)), zi (zb (((0 ≤ x ∧ x < D 1 0) ∧ 0 ≤ y ∧ y < D 1 0) ∧ hasDev D x.toNat u))] (sX10_passesAll (A := ((0 ≤ x ∧ x < D 1 0) ∧ 0 ≤ y ∧ y < D 1 0)) (B := (¬ x = y)) (C := (((0 ≤ x ∧ x < D 1 0) ∧ 0 ≤ y ∧ y < D 1 0) ∧ hasDev D x.toNat u)) hfl hz ) dX10_transferDevice_56 (by decide) rfl cw_RX10_462 okX10_passesAll rfl (Nat.le_of_ble_eq_true rfl) ⟨Nat.le_of_ble_eq_true rfl, Nat.le_of_ble_eq_true rfl, Nat.le_of_ble_eq_true rfl, Nat.le_of_ble_eq_true rfl⟩ ?_
          refine zy_cv [zi (zb (((0 ≤ x ∧ x < D 1 0) ∧ 0 ≤ y ∧ y < D 1 0) ∧ (¬ x = y) ∧ (((0 ≤ x ∧ x < D 1 0) ∧ 0 ≤ y ∧ y < D 1 0) ∧ hasDev D x.toNat u)))] (sX10_tried_f (A := (((0 ≤ x ∧ x < D 1 0) ∧ 0 ≤ y ∧ y < D 1 0) ∧ (¬ x = y) ∧ (((0 ≤ x ∧ x < D 1 0) ∧ 0 ≤ y ∧ y < D 1 0) ∧ hasDev D x.toNat u))) hfl (zOK_put hz (th3_r _ _ _)) (fun q => q.2.1 hw2)) dX10_transferDevice_59 (by decide) rfl cw_RX10_449 okX10_tried rfl (Nat.le_of_ble_eq_true rfl) ⟨Nat.le_of_ble_eq_true rfl, Nat.le_of_ble_eq_true rfl, Nat.le_of_ble_eq_true rfl, Nat.le_of_ble_eq_true rfl⟩ ?_
          refine zx_if_eq (tgt := 79) (by first | exact hz _ _ | assumption | exact zr_b _ | exact zcmp_r _ _ | (unfold zr at *; omega)) dX10_transferDevice_62 (by decide) (fun h62 => ?_) (fun h62 => ?_)
          · have h62 := zb_0.mp h62
            refine zx_iconst dX10_transferDevice_79 ?_
            refine zx_iret rfl rfl dX10_transferDevice_80 ?_
            rw [hQ]
            refine ⟨congrArg (fun z : Int => (Sum.inl (some (zi z)) : Option zV ⊕ String)) ?_, ?_⟩
            · rfl
            exact ⟨(zOK_put hz (th3_r _ _ _)), QP_th hR, (zput_s _ _ _ _).trans (th3_2 hw (fun q => q hw2))⟩
          · have h62 := zb_n.mp h62
            exact absurd (by assumption : ((0 ≤ x ∧ x < D 1 0) ∧ 0 ≤ y ∧ y < D 1 0) ∧ (¬ x = y) ∧ (((0 ≤ x ∧ x < D 1 0) ∧ 0 ≤ y ∧ y < D 1 0) ∧ hasDev D x.toNat u)) (fun q => q.2.1 hw2)
  · have h5 := zb_n.mp h5
    refine zx_aloadN dX10_transferDevice_8 rfl rfl ?_
    refine zx_iloadN dX10_transferDevice_9 rfl rfl ?_
    refine zy_cv [zi y] (sX10_isPrinter (D := D) hfl hz (by first | assumption | omega) (by first | assumption | (refine Rel_put (by decide) ?_; assumption) | (refine Rel_put (by decide) (Rel_put (by decide) ?_); assumption) | (refine Rel_put (by decide) (Rel_put (by decide) (Rel_put (by decide) ?_)); assumption)) (by first | exact hz _ _ | assumption | exact zr_b _ | exact zcmp_r _ _ | (unfold zr at *; omega))) dX10_transferDevice_10 (by decide) rfl cw_RX10_400 okX10_isPrinter rfl (Nat.le_of_ble_eq_true rfl) ⟨Nat.le_of_ble_eq_true rfl, Nat.le_of_ble_eq_true rfl, Nat.le_of_ble_eq_true rfl, Nat.le_of_ble_eq_true rfl⟩ ?_
    refine zx_if_eq (tgt := 20) (by first | exact hz _ _ | assumption | exact zr_b _ | exact zcmp_r _ _ | (unfold zr at *; omega)) dX10_transferDevice_13 (by decide) (fun h13 => ?_) (fun h13 => ?_)
    · have h13 := zb_0.mp h13
      refine zx_iconst dX10_transferDevice_20 ?_
      refine zy_top (b := zb ((0 ≤ x ∧ x < D 1 0) ∧ 0 ≤ y ∧ y < D 1 0)) (by first | exact (zb_t (by exact ⟨by assumption, by assumption⟩)).symm | exact (zb_f (fun q => absurd q.1 (by assumption))).symm | exact (zb_f (fun q => absurd q.2 (by assumption))).symm) ?_
      refine zy_istore [zf 10 261, zi x, zi y, zi u, zi (zb ((0 ≤ x ∧ x < D 1 0) ∧ 0 ≤ y ∧ y < D 1 0))] dX10_transferDevice_21 (Nat.le_of_ble_eq_true rfl) (Nat.le_of_ble_eq_true rfl) rfl rfl ?_
      refine zx_aloadN dX10_transferDevice_23 rfl rfl ?_
      refine zx_aloadN dX10_transferDevice_24 rfl rfl ?_
      refine zx_iload dX10_transferDevice_25 rfl ?_
      refine zx_iloadN dX10_transferDevice_27 rfl rfl ?_
      refine zx_iloadN dX10_transferDevice_28 rfl rfl ?_
      refine zx_icmp_eq (tgt := 36) (by first | exact hz _ _ | assumption | exact zr_b _ | exact zcmp_r _ _ | (unfold zr at *; omega)) (by first | exact hz _ _ | assumption | exact zr_b _ | exact zcmp_r _ _ | (unfold zr at *; omega)) dX10_transferDevice_29 (by decide) (fun h29 => ?_) (fun h29 => ?_)
      · refine zx_iconst dX10_transferDevice_36 ?_
        refine zy_top (b := zb (¬ x = y)) (by first | exact (zb_t (by assumption)).symm | exact (zb_t (by omega)).symm | exact (zb_f (by omega)).symm | exact (zb_f (by assumption)).symm | exact (zb_f (fun q => q (by assumption))).symm) ?_
        refine zx_iload dX10_transferDevice_37 rfl ?_
        refine zx_if_eq (tgt := 55) (by first | exact hz _ _ | assumption | exact zr_b _ | exact zcmp_r _ _ | (unfold zr at *; omega)) dX10_transferDevice_39 (by decide) (fun h39 => ?_) (fun h39 => ?_)
        · have h39 := zb_0.mp h39
          refine zx_iconst dX10_transferDevice_55 ?_
          refine zy_top (b := zb (((0 ≤ x ∧ x < D 1 0) ∧ 0 ≤ y ∧ y < D 1 0) ∧ hasDev D x.toNat u)) (by first | exact (zb_t (by exact ⟨by assumption, by assumption⟩)).symm | exact (zb_f (fun q => absurd q.1 (by assumption))).symm | exact (zb_f (fun q => absurd q.2 (by assumption))).symm) ?_
          refine zy_cv [zi (zb ((0 ≤ x ∧ x < D 1 0) ∧ 0 ≤ y ∧ y < D 1 0)), zi (zb (¬ x = y)), zi (zb (((0 ≤ x ∧ x < D 1 0) ∧ 0 ≤ y ∧ y < D 1 0) ∧ hasDev D x.toNat u))] (sX10_passesAll (A := ((0 ≤ x ∧ x < D 1 0) ∧ 0 ≤ y ∧ y < D 1 0)) (B := (¬ x = y)) (C := (((0 ≤ x ∧ x < D 1 0) ∧ 0 ≤ y ∧ y < D 1 0) ∧ hasDev D x.toNat u)) hfl hz ) dX10_transferDevice_56 (by decide) rfl cw_RX10_462 okX10_passesAll rfl (Nat.le_of_ble_eq_true rfl) ⟨Nat.le_of_ble_eq_true rfl, Nat.le_of_ble_eq_true rfl, Nat.le_of_ble_eq_true rfl, Nat.le_of_ble_eq_true rfl⟩ ?_
          refine zy_cv [zi (zb (((0 ≤ x ∧ x < D 1 0) ∧ 0 ≤ y ∧ y < D 1 0) ∧ (¬ x = y) ∧ (((0 ≤ x ∧ x < D 1 0) ∧ 0 ≤ y ∧ y < D 1 0) ∧ hasDev D x.toNat u)))] (sX10_tried_f (A := (((0 ≤ x ∧ x < D 1 0) ∧ 0 ≤ y ∧ y < D 1 0) ∧ (¬ x = y) ∧ (((0 ≤ x ∧ x < D 1 0) ∧ 0 ≤ y ∧ y < D 1 0) ∧ hasDev D x.toNat u))) hfl (zOK_put hz (th3_r _ _ _)) (fun q => q.2.1 hw2)) dX10_transferDevice_59 (by decide) rfl cw_RX10_449 okX10_tried rfl (Nat.le_of_ble_eq_true rfl) ⟨Nat.le_of_ble_eq_true rfl, Nat.le_of_ble_eq_true rfl, Nat.le_of_ble_eq_true rfl, Nat.le_of_ble_eq_true rfl⟩ ?_
          refine zx_if_eq (tgt := 79) (by first | exact hz _ _ | assumption | exact zr_b _ | exact zcmp_r _ _ | (unfold zr at *; omega)) dX10_transferDevice_62 (by decide) (fun h62 => ?_) (fun h62 => ?_)
          · have h62 := zb_0.mp h62
            refine zx_iconst dX10_transferDevice_79 ?_
            refine zx_iret rfl rfl dX10_transferDevice_80 ?_
            rw [hQ]
            refine ⟨congrArg (fun z : Int => (Sum.inl (some (zi z)) : Option zV ⊕ String)) ?_, ?_⟩
            · rfl
            exact ⟨(zOK_put hz (th3_r _ _ _)), QP_th hR, (zput_s _ _ _ _).trans (th3_2 hw (fun q => q hw2))⟩
          · have h62 := zb_n.mp h62
            exact absurd (by assumption : ((0 ≤ x ∧ x < D 1 0) ∧ 0 ≤ y ∧ y < D 1 0) ∧ (¬ x = y) ∧ (((0 ≤ x ∧ x < D 1 0) ∧ 0 ≤ y ∧ y < D 1 0) ∧ hasDev D x.toNat u)) (fun q => q.2.1 hw2)
        · have h39 := zb_n.mp h39
          refine zx_aloadN dX10_transferDevice_42 rfl rfl ?_
          refine zx_iloadN dX10_transferDevice_43 rfl rfl ?_
          refine zy_top (b := ((x.toNat : Nat) : Int)) (by omega) ?_
          refine zx_iloadN dX10_transferDevice_44 rfl rfl ?_
          refine zy_cv [zi ((x.toNat : Nat) : Int), zi u] (sX10_ownsDevice (D := D) (p := x.toNat) hfl hz (by first | assumption | omega) (by first | assumption | (refine Rel_put (by decide) ?_; assumption) | (refine Rel_put (by decide) (Rel_put (by decide) ?_); assumption) | (refine Rel_put (by decide) (Rel_put (by decide) (Rel_put (by decide) ?_)); assumption)) (by first | assumption | omega) (by first | exact hz _ _ | assumption | exact zr_b _ | exact zcmp_r _ _ | (unfold zr at *; omega))) dX10_transferDevice_45 (by decide) rfl cw_RX10_90 okX10_ownsDevice rfl (Nat.le_of_ble_eq_true rfl) ⟨Nat.le_of_ble_eq_true rfl, Nat.le_of_ble_eq_true rfl, Nat.le_of_ble_eq_true rfl, Nat.le_of_ble_eq_true rfl⟩ ?_
          refine zx_if_eq (tgt := 55) (by first | exact hz _ _ | assumption | exact zr_b _ | exact zcmp_r _ _ | (unfold zr at *; omega)) dX10_transferDevice_48 (by decide) (fun h48 => ?_) (fun h48 => ?_)
          · have h48 := zb_0.mp h48
            refine zx_iconst dX10_transferDevice_55 ?_
            refine zy_top (b := zb (((0 ≤ x ∧ x < D 1 0) ∧ 0 ≤ y ∧ y < D 1 0) ∧ hasDev D x.toNat u)) (by first | exact (zb_t (by exact ⟨by assumption, by assumption⟩)).symm | exact (zb_f (fun q => absurd q.1 (by assumption))).symm | exact (zb_f (fun q => absurd q.2 (by assumption))).symm) ?_
            refine zy_cv [zi (zb ((0 ≤ x ∧ x < D 1 0) ∧ 0 ≤ y ∧ y < D 1 0)), zi (zb (¬ x = y)), zi (zb (((0 ≤ x ∧ x < D 1 0) ∧ 0 ≤ y ∧ y < D 1 0) ∧ hasDev D x.toNat u))] (sX10_passesAll (A := ((0 ≤ x ∧ x < D 1 0) ∧ 0 ≤ y ∧ y < D 1 0)) (B := (¬ x = y)) (C := (((0 ≤ x ∧ x < D 1 0) ∧ 0 ≤ y ∧ y < D 1 0) ∧ hasDev D x.toNat u)) hfl hz ) dX10_transferDevice_56 (by decide) rfl cw_RX10_462 okX10_passesAll rfl (Nat.le_of_ble_eq_true rfl) ⟨Nat.le_of_ble_eq_true rfl, Nat.le_of_ble_eq_true rfl, Nat.le_of_ble_eq_true rfl, Nat.le_of_ble_eq_true rfl⟩ ?_
            refine zy_cv [zi (zb (((0 ≤ x ∧ x < D 1 0) ∧ 0 ≤ y ∧ y < D 1 0) ∧ (¬ x = y) ∧ (((0 ≤ x ∧ x < D 1 0) ∧ 0 ≤ y ∧ y < D 1 0) ∧ hasDev D x.toNat u)))] (sX10_tried_f (A := (((0 ≤ x ∧ x < D 1 0) ∧ 0 ≤ y ∧ y < D 1 0) ∧ (¬ x = y) ∧ (((0 ≤ x ∧ x < D 1 0) ∧ 0 ≤ y ∧ y < D 1 0) ∧ hasDev D x.toNat u))) hfl (zOK_put hz (th3_r _ _ _)) (fun q => q.2.1 hw2)) dX10_transferDevice_59 (by decide) rfl cw_RX10_449 okX10_tried rfl (Nat.le_of_ble_eq_true rfl) ⟨Nat.le_of_ble_eq_true rfl, Nat.le_of_ble_eq_true rfl, Nat.le_of_ble_eq_true rfl, Nat.le_of_ble_eq_true rfl⟩ ?_
            refine zx_if_eq (tgt := 79) (by first | exact hz _ _ | assumption | exact zr_b _ | exact zcmp_r _ _ | (unfold zr at *; omega)) dX10_transferDevice_62 (by decide) (fun h62 => ?_) (fun h62 => ?_)
            · have h62 := zb_0.mp h62
              refine zx_iconst dX10_transferDevice_79 ?_
              refine zx_iret rfl rfl dX10_transferDevice_80 ?_
              rw [hQ]
              refine ⟨congrArg (fun z : Int => (Sum.inl (some (zi z)) : Option zV ⊕ String)) ?_, ?_⟩
              · rfl
              exact ⟨(zOK_put hz (th3_r _ _ _)), QP_th hR, (zput_s _ _ _ _).trans (th3_2 hw (fun q => q hw2))⟩
            · have h62 := zb_n.mp h62
              exact absurd (by assumption : ((0 ≤ x ∧ x < D 1 0) ∧ 0 ≤ y ∧ y < D 1 0) ∧ (¬ x = y) ∧ (((0 ≤ x ∧ x < D 1 0) ∧ 0 ≤ y ∧ y < D 1 0) ∧ hasDev D x.toNat u)) (fun q => q.2.1 hw2)
          · have h48 := zb_n.mp h48
            refine zx_iconst dX10_transferDevice_51 ?_
            refine zx_goto (tgt := 56) dX10_transferDevice_52 (by decide) ?_
            refine zy_top (b := zb (((0 ≤ x ∧ x < D 1 0) ∧ 0 ≤ y ∧ y < D 1 0) ∧ hasDev D x.toNat u)) (by first | exact (zb_t (by exact ⟨by assumption, by assumption⟩)).symm | exact (zb_f (fun q => absurd q.1 (by assumption))).symm | exact (zb_f (fun q => absurd q.2 (by assumption))).symm) ?_
            refine zy_cv [zi (zb ((0 ≤ x ∧ x < D 1 0) ∧ 0 ≤ y ∧ y < D 1 0)), zi (zb (¬ x = y)), zi (zb (((0 ≤ x ∧ x < D 1 0) ∧ 0 ≤ y ∧ y < D 1 0) ∧ hasDev D x.toNat u))] (sX10_passesAll (A := ((0 ≤ x ∧ x < D 1 0) ∧ 0 ≤ y ∧ y < D 1 0)) (B := (¬ x = y)) (C := (((0 ≤ x ∧ x < D 1 0) ∧ 0 ≤ y ∧ y < D 1 0) ∧ hasDev D x.toNat u)) hfl hz ) dX10_transferDevice_56 (by decide) rfl cw_RX10_462 okX10_passesAll rfl (Nat.le_of_ble_eq_true rfl) ⟨Nat.le_of_ble_eq_true rfl, Nat.le_of_ble_eq_true rfl, Nat.le_of_ble_eq_true rfl, Nat.le_of_ble_eq_true rfl⟩ ?_
            refine zy_cv [zi (zb (((0 ≤ x ∧ x < D 1 0) ∧ 0 ≤ y ∧ y < D 1 0) ∧ (¬ x = y) ∧ (((0 ≤ x ∧ x < D 1 0) ∧ 0 ≤ y ∧ y < D 1 0) ∧ hasDev D x.toNat u)))] (sX10_tried_f (A := (((0 ≤ x ∧ x < D 1 0) ∧ 0 ≤ y ∧ y < D 1 0) ∧ (¬ x = y) ∧ (((0 ≤ x ∧ x < D 1 0) ∧ 0 ≤ y ∧ y < D 1 0) ∧ hasDev D x.toNat u))) hfl (zOK_put hz (th3_r _ _ _)) (fun q => q.2.1 hw2)) dX10_transferDevice_59 (by decide) rfl cw_RX10_449 okX10_tried rfl (Nat.le_of_ble_eq_true rfl) ⟨Nat.le_of_ble_eq_true rfl, Nat.le_of_ble_eq_true rfl, Nat.le_of_ble_eq_true rfl, Nat.le_of_ble_eq_true rfl⟩ ?_
            refine zx_if_eq (tgt := 79) (by first | exact hz _ _ | assumption | exact zr_b _ | exact zcmp_r _ _ | (unfold zr at *; omega)) dX10_transferDevice_62 (by decide) (fun h62 => ?_) (fun h62 => ?_)
            · have h62 := zb_0.mp h62
              refine zx_iconst dX10_transferDevice_79 ?_
              refine zx_iret rfl rfl dX10_transferDevice_80 ?_
              rw [hQ]
              refine ⟨congrArg (fun z : Int => (Sum.inl (some (zi z)) : Option zV ⊕ String)) ?_, ?_⟩
              · rfl
              exact ⟨(zOK_put hz (th3_r _ _ _)), QP_th hR, (zput_s _ _ _ _).trans (th3_2 hw (fun q => q hw2))⟩
            · have h62 := zb_n.mp h62
              exact absurd (by assumption : ((0 ≤ x ∧ x < D 1 0) ∧ 0 ≤ y ∧ y < D 1 0) ∧ (¬ x = y) ∧ (((0 ≤ x ∧ x < D 1 0) ∧ 0 ≤ y ∧ y < D 1 0) ∧ hasDev D x.toNat u)) (fun q => q.2.1 hw2)
      · refine zx_iconst dX10_transferDevice_32 ?_
        refine zx_goto (tgt := 37) dX10_transferDevice_33 (by decide) ?_
        refine zy_top (b := zb (¬ x = y)) (by first | exact (zb_t (by assumption)).symm | exact (zb_t (by omega)).symm | exact (zb_f (by omega)).symm | exact (zb_f (by assumption)).symm | exact (zb_f (fun q => q (by assumption))).symm) ?_
        refine zx_iload dX10_transferDevice_37 rfl ?_
        refine zx_if_eq (tgt := 55) (by first | exact hz _ _ | assumption | exact zr_b _ | exact zcmp_r _ _ | (unfold zr at *; omega)) dX10_transferDevice_39 (by decide) (fun h39 => ?_) (fun h39 => ?_)
        · have h39 := zb_0.mp h39
          refine zx_iconst dX10_transferDevice_55 ?_
          refine zy_top (b := zb (((0 ≤ x ∧ x < D 1 0) ∧ 0 ≤ y ∧ y < D 1 0) ∧ hasDev D x.toNat u)) (by first | exact (zb_t (by exact ⟨by assumption, by assumption⟩)).symm | exact (zb_f (fun q => absurd q.1 (by assumption))).symm | exact (zb_f (fun q => absurd q.2 (by assumption))).symm) ?_
          refine zy_cv [zi (zb ((0 ≤ x ∧ x < D 1 0) ∧ 0 ≤ y ∧ y < D 1 0)), zi (zb (¬ x = y)), zi (zb (((0 ≤ x ∧ x < D 1 0) ∧ 0 ≤ y ∧ y < D 1 0) ∧ hasDev D x.toNat u))] (sX10_passesAll (A := ((0 ≤ x ∧ x < D 1 0) ∧ 0 ≤ y ∧ y < D 1 0)) (B := (¬ x = y)) (C := (((0 ≤ x ∧ x < D 1 0) ∧ 0 ≤ y ∧ y < D 1 0) ∧ hasDev D x.toNat u)) hfl hz ) dX10_transferDevice_56 (by decide) rfl cw_RX10_462 okX10_passesAll rfl (Nat.le_of_ble_eq_true rfl) ⟨Nat.le_of_ble_eq_true rfl, Nat.le_of_ble_eq_true rfl, Nat.le_of_ble_eq_true rfl, Nat.le_of_ble_eq_true rfl⟩ ?_
          refine zy_cv [zi (zb (((0 ≤ x ∧ x < D 1 0) ∧ 0 ≤ y ∧ y < D 1 0) ∧ (¬ x = y) ∧ (((0 ≤ x ∧ x < D 1 0) ∧ 0 ≤ y ∧ y < D 1 0) ∧ hasDev D x.toNat u)))] (sX10_tried_f (A := (((0 ≤ x ∧ x < D 1 0) ∧ 0 ≤ y ∧ y < D 1 0) ∧ (¬ x = y) ∧ (((0 ≤ x ∧ x < D 1 0) ∧ 0 ≤ y ∧ y < D 1 0) ∧ hasDev D x.toNat u))) hfl (zOK_put hz (th3_r _ _ _)) (fun q => q.2.1 hw2)) dX10_transferDevice_59 (by decide) rfl cw_RX10_449 okX10_tried rfl (Nat.le_of_ble_eq_true rfl) ⟨Nat.le_of_ble_eq_true rfl, Nat.le_of_ble_eq_true rfl, Nat.le_of_ble_eq_true rfl, Nat.le_of_ble_eq_true rfl⟩ ?_
          refine zx_if_eq (tgt := 79) (by first | exact hz _ _ | assumption | exact zr_b _ | exact zcmp_r _ _ | (unfold zr at *; omega)) dX10_transferDevice_62 (by decide) (fun h62 => ?_) (fun h62 => ?_)
          · have h62 := zb_0.mp h62
            refine zx_iconst dX10_transferDevice_79 ?_
            refine zx_iret rfl rfl dX10_transferDevice_80 ?_
            rw [hQ]
            refine ⟨congrArg (fun z : Int => (Sum.inl (some (zi z)) : Option zV ⊕ String)) ?_, ?_⟩
            · rfl
            exact ⟨(zOK_put hz (th3_r _ _ _)), QP_th hR, (zput_s _ _ _ _).trans (th3_2 hw (fun q => q hw2))⟩
          · have h62 := zb_n.mp h62
            exact absurd (by assumption : ((0 ≤ x ∧ x < D 1 0) ∧ 0 ≤ y ∧ y < D 1 0) ∧ (¬ x = y) ∧ (((0 ≤ x ∧ x < D 1 0) ∧ 0 ≤ y ∧ y < D 1 0) ∧ hasDev D x.toNat u)) (fun q => q.2.1 hw2)
        · have h39 := zb_n.mp h39
          refine zx_aloadN dX10_transferDevice_42 rfl rfl ?_
          refine zx_iloadN dX10_transferDevice_43 rfl rfl ?_
          refine zy_top (b := ((x.toNat : Nat) : Int)) (by omega) ?_
          refine zx_iloadN dX10_transferDevice_44 rfl rfl ?_
          refine zy_cv [zi ((x.toNat : Nat) : Int), zi u] (sX10_ownsDevice (D := D) (p := x.toNat) hfl hz (by first | assumption | omega) (by first | assumption | (refine Rel_put (by decide) ?_; assumption) | (refine Rel_put (by decide) (Rel_put (by decide) ?_); assumption) | (refine Rel_put (by decide) (Rel_put (by decide) (Rel_put (by decide) ?_)); assumption)) (by first | assumption | omega) (by first | exact hz _ _ | assumption | exact zr_b _ | exact zcmp_r _ _ | (unfold zr at *; omega))) dX10_transferDevice_45 (by decide) rfl cw_RX10_90 okX10_ownsDevice rfl (Nat.le_of_ble_eq_true rfl) ⟨Nat.le_of_ble_eq_true rfl, Nat.le_of_ble_eq_true rfl, Nat.le_of_ble_eq_true rfl, Nat.le_of_ble_eq_true rfl⟩ ?_
          refine zx_if_eq (tgt := 55) (by first | exact hz _ _ | assumption | exact zr_b _ | exact zcmp_r _ _ | (unfold zr at *; omega)) dX10_transferDevice_48 (by decide) (fun h48 => ?_) (fun h48 => ?_)
          · have h48 := zb_0.mp h48
            refine zx_iconst dX10_transferDevice_55 ?_
            refine zy_top (b := zb (((0 ≤ x ∧ x < D 1 0) ∧ 0 ≤ y ∧ y < D 1 0) ∧ hasDev D x.toNat u)) (by first | exact (zb_t (by exact ⟨by assumption, by assumption⟩)).symm | exact (zb_f (fun q => absurd q.1 (by assumption))).symm | exact (zb_f (fun q => absurd q.2 (by assumption))).symm) ?_
            refine zy_cv [zi (zb ((0 ≤ x ∧ x < D 1 0) ∧ 0 ≤ y ∧ y < D 1 0)), zi (zb (¬ x = y)), zi (zb (((0 ≤ x ∧ x < D 1 0) ∧ 0 ≤ y ∧ y < D 1 0) ∧ hasDev D x.toNat u))] (sX10_passesAll (A := ((0 ≤ x ∧ x < D 1 0) ∧ 0 ≤ y ∧ y < D 1 0)) (B := (¬ x = y)) (C := (((0 ≤ x ∧ x < D 1 0) ∧ 0 ≤ y ∧ y < D 1 0) ∧ hasDev D x.toNat u)) hfl hz ) dX10_transferDevice_56 (by decide) rfl cw_RX10_462 okX10_passesAll rfl (Nat.le_of_ble_eq_true rfl) ⟨Nat.le_of_ble_eq_true rfl, Nat.le_of_ble_eq_true rfl, Nat.le_of_ble_eq_true rfl, Nat.le_of_ble_eq_true rfl⟩ ?_
            refine zy_cv [zi (zb (((0 ≤ x ∧ x < D 1 0) ∧ 0 ≤ y ∧ y < D 1 0) ∧ (¬ x = y) ∧ (((0 ≤ x ∧ x < D 1 0) ∧ 0 ≤ y ∧ y < D 1 0) ∧ hasDev D x.toNat u)))] (sX10_tried_f (A := (((0 ≤ x ∧ x < D 1 0) ∧ 0 ≤ y ∧ y < D 1 0) ∧ (¬ x = y) ∧ (((0 ≤ x ∧ x < D 1 0) ∧ 0 ≤ y ∧ y < D 1 0) ∧ hasDev D x.toNat u))) hfl (zOK_put hz (th3_r _ _ _)) (fun q => q.2.1 hw2)) dX10_transferDevice_59 (by decide) rfl cw_RX10_449 okX10_tried rfl (Nat.le_of_ble_eq_true rfl) ⟨Nat.le_of_ble_eq_true rfl, Nat.le_of_ble_eq_true rfl, Nat.le_of_ble_eq_true rfl, Nat.le_of_ble_eq_true rfl⟩ ?_
            refine zx_if_eq (tgt := 79) (by first | exact hz _ _ | assumption | exact zr_b _ | exact zcmp_r _ _ | (unfold zr at *; omega)) dX10_transferDevice_62 (by decide) (fun h62 => ?_) (fun h62 => ?_)
            · have h62 := zb_0.mp h62
              refine zx_iconst dX10_transferDevice_79 ?_
              refine zx_iret rfl rfl dX10_transferDevice_80 ?_
              rw [hQ]
              refine ⟨congrArg (fun z : Int => (Sum.inl (some (zi z)) : Option zV ⊕ String)) ?_, ?_⟩
              · rfl
              exact ⟨(zOK_put hz (th3_r _ _ _)), QP_th hR, (zput_s _ _ _ _).trans (th3_2 hw (fun q => q hw2))⟩
            · have h62 := zb_n.mp h62
              exact absurd (by assumption : ((0 ≤ x ∧ x < D 1 0) ∧ 0 ≤ y ∧ y < D 1 0) ∧ (¬ x = y) ∧ (((0 ≤ x ∧ x < D 1 0) ∧ 0 ≤ y ∧ y < D 1 0) ∧ hasDev D x.toNat u)) (fun q => q.2.1 hw2)
          · have h48 := zb_n.mp h48
            refine zx_iconst dX10_transferDevice_51 ?_
            refine zx_goto (tgt := 56) dX10_transferDevice_52 (by decide) ?_
            refine zy_top (b := zb (((0 ≤ x ∧ x < D 1 0) ∧ 0 ≤ y ∧ y < D 1 0) ∧ hasDev D x.toNat u)) (by first | exact (zb_t (by exact ⟨by assumption, by assumption⟩)).symm | exact (zb_f (fun q => absurd q.1 (by assumption))).symm | exact (zb_f (fun q => absurd q.2 (by assumption))).symm) ?_
            refine zy_cv [zi (zb ((0 ≤ x ∧ x < D 1 0) ∧ 0 ≤ y ∧ y < D 1 0)), zi (zb (¬ x = y)), zi (zb (((0 ≤ x ∧ x < D 1 0) ∧ 0 ≤ y ∧ y < D 1 0) ∧ hasDev D x.toNat u))] (sX10_passesAll (A := ((0 ≤ x ∧ x < D 1 0) ∧ 0 ≤ y ∧ y < D 1 0)) (B := (¬ x = y)) (C := (((0 ≤ x ∧ x < D 1 0) ∧ 0 ≤ y ∧ y < D 1 0) ∧ hasDev D x.toNat u)) hfl hz ) dX10_transferDevice_56 (by decide) rfl cw_RX10_462 okX10_passesAll rfl (Nat.le_of_ble_eq_true rfl) ⟨Nat.le_of_ble_eq_true rfl, Nat.le_of_ble_eq_true rfl, Nat.le_of_ble_eq_true rfl, Nat.le_of_ble_eq_true rfl⟩ ?_
            refine zy_cv [zi (zb (((0 ≤ x ∧ x < D 1 0) ∧ 0 ≤ y ∧ y < D 1 0) ∧ (¬ x = y) ∧ (((0 ≤ x ∧ x < D 1 0) ∧ 0 ≤ y ∧ y < D 1 0) ∧ hasDev D x.toNat u)))] (sX10_tried_f (A := (((0 ≤ x ∧ x < D 1 0) ∧ 0 ≤ y ∧ y < D 1 0) ∧ (¬ x = y) ∧ (((0 ≤ x ∧ x < D 1 0) ∧ 0 ≤ y ∧ y < D 1 0) ∧ hasDev D x.toNat u))) hfl (zOK_put hz (th3_r _ _ _)) (fun q => q.2.1 hw2)) dX10_transferDevice_59 (by decide) rfl cw_RX10_449 okX10_tried rfl (Nat.le_of_ble_eq_true rfl) ⟨Nat.le_of_ble_eq_true rfl, Nat.le_of_ble_eq_true rfl, Nat.le_of_ble_eq_true rfl, Nat.le_of_ble_eq_true rfl⟩ ?_
            refine zx_if_eq (tgt := 79) (by first | exact hz _ _ | assumption | exact zr_b _ | exact zcmp_r _ _ | (unfold zr at *; omega)) dX10_transferDevice_62 (by decide) (fun h62 => ?_) (fun h62 => ?_)
            · have h62 := zb_0.mp h62
              refine zx_iconst dX10_transferDevice_79 ?_
              refine zx_iret rfl rfl dX10_transferDevice_80 ?_
              rw [hQ]
              refine ⟨congrArg (fun z : Int => (Sum.inl (some (zi z)) : Option zV ⊕ String)) ?_, ?_⟩
              · rfl
              exact ⟨(zOK_put hz (th3_r _ _ _)), QP_th hR, (zput_s _ _ _ _).trans (th3_2 hw (fun q => q hw2))⟩
            · have h62 := zb_n.mp h62
              exact absurd (by assumption : ((0 ≤ x ∧ x < D 1 0) ∧ 0 ≤ y ∧ y < D 1 0) ∧ (¬ x = y) ∧ (((0 ≤ x ∧ x < D 1 0) ∧ 0 ≤ y ∧ y < D 1 0) ∧ hasDev D x.toNat u)) (fun q => q.2.1 hw2)
    · have h13 := zb_n.mp h13
      refine zx_iconst dX10_transferDevice_16 ?_
      refine zx_goto (tgt := 21) dX10_transferDevice_17 (by decide) ?_
      refine zy_top (b := zb ((0 ≤ x ∧ x < D 1 0) ∧ 0 ≤ y ∧ y < D 1 0)) (by first | exact (zb_t (by exact ⟨by assumption, by assumption⟩)).symm | exact (zb_f (fun q => absurd q.1 (by assumption))).symm | exact (zb_f (fun q => absurd q.2 (by assumption))).symm) ?_
      refine zy_istore [zf 10 261, zi x, zi y, zi u, zi (zb ((0 ≤ x ∧ x < D 1 0) ∧ 0 ≤ y ∧ y < D 1 0))] dX10_transferDevice_21 (Nat.le_of_ble_eq_true rfl) (Nat.le_of_ble_eq_true rfl) rfl rfl ?_
      refine zx_aloadN dX10_transferDevice_23 rfl rfl ?_
      refine zx_aloadN dX10_transferDevice_24 rfl rfl ?_
      refine zx_iload dX10_transferDevice_25 rfl ?_
      refine zx_iloadN dX10_transferDevice_27 rfl rfl ?_
      refine zx_iloadN dX10_transferDevice_28 rfl rfl ?_
      refine zx_icmp_eq (tgt := 36) (by first | exact hz _ _ | assumption | exact zr_b _ | exact zcmp_r _ _ | (unfold zr at *; omega)) (by first | exact hz _ _ | assumption | exact zr_b _ | exact zcmp_r _ _ | (unfold zr at *; omega)) dX10_transferDevice_29 (by decide) (fun h29 => ?_) (fun h29 => ?_)
      · refine zx_iconst dX10_transferDevice_36 ?_
        refine zy_top (b := zb (¬ x = y)) (by first | exact (zb_t (by assumption)).symm | exact (zb_t (by omega)).symm | exact (zb_f (by omega)).symm | exact (zb_f (by assumption)).symm | exact (zb_f (fun q => q (by assumption))).symm) ?_
        refine zx_iload dX10_transferDevice_37 rfl ?_
        refine zx_if_eq (tgt := 55) (by first | exact hz _ _ | assumption | exact zr_b _ | exact zcmp_r _ _ | (unfold zr at *; omega)) dX10_transferDevice_39 (by decide) (fun h39 => ?_) (fun h39 => ?_)
        · have h39 := zb_0.mp h39
          refine zx_iconst dX10_transferDevice_55 ?_
          refine zy_top (b := zb (((0 ≤ x ∧ x < D 1 0) ∧ 0 ≤ y ∧ y < D 1 0) ∧ hasDev D x.toNat u)) (by first | exact (zb_t (by exact ⟨by assumption, by assumption⟩)).symm | exact (zb_f (fun q => absurd q.1 (by assumption))).symm | exact (zb_f (fun q => absurd q.2 (by assumption))).symm) ?_
          refine zy_cv [zi (zb ((0 ≤ x ∧ x < D 1 0) ∧ 0 ≤ y ∧ y < D 1 0)), zi (zb (¬ x = y)), zi (zb (((0 ≤ x ∧ x < D 1 0) ∧ 0 ≤ y ∧ y < D 1 0) ∧ hasDev D x.toNat u))] (sX10_passesAll (A := ((0 ≤ x ∧ x < D 1 0) ∧ 0 ≤ y ∧ y < D 1 0)) (B := (¬ x = y)) (C := (((0 ≤ x ∧ x < D 1 0) ∧ 0 ≤ y ∧ y < D 1 0) ∧ hasDev D x.toNat u)) hfl hz ) dX10_transferDevice_56 (by decide) rfl cw_RX10_462 okX10_passesAll rfl (Nat.le_of_ble_eq_true rfl) ⟨Nat.le_of_ble_eq_true rfl, Nat.le_of_ble_eq_true rfl, Nat.le_of_ble_eq_true rfl, Nat.le_of_ble_eq_true rfl⟩ ?_
          refine zy_cv [zi (zb (((0 ≤ x ∧ x < D 1 0) ∧ 0 ≤ y ∧ y < D 1 0) ∧ (¬ x = y) ∧ (((0 ≤ x ∧ x < D 1 0) ∧ 0 ≤ y ∧ y < D 1 0) ∧ hasDev D x.toNat u)))] (sX10_tried_f (A := (((0 ≤ x ∧ x < D 1 0) ∧ 0 ≤ y ∧ y < D 1 0) ∧ (¬ x = y) ∧ (((0 ≤ x ∧ x < D 1 0) ∧ 0 ≤ y ∧ y < D 1 0) ∧ hasDev D x.toNat u))) hfl (zOK_put hz (th3_r _ _ _)) (fun q => q.2.1 hw2)) dX10_transferDevice_59 (by decide) rfl cw_RX10_449 okX10_tried rfl (Nat.le_of_ble_eq_true rfl) ⟨Nat.le_of_ble_eq_true rfl, Nat.le_of_ble_eq_true rfl, Nat.le_of_ble_eq_true rfl, Nat.le_of_ble_eq_true rfl⟩ ?_
          refine zx_if_eq (tgt := 79) (by first | exact hz _ _ | assumption | exact zr_b _ | exact zcmp_r _ _ | (unfold zr at *; omega)) dX10_transferDevice_62 (by decide) (fun h62 => ?_) (fun h62 => ?_)
          · have h62 := zb_0.mp h62
            refine zx_iconst dX10_transferDevice_79 ?_
            refine zx_iret rfl rfl dX10_transferDevice_80 ?_
            rw [hQ]
            refine ⟨congrArg (fun z : Int => (Sum.inl (some (zi z)) : Option zV ⊕ String)) ?_, ?_⟩
            · rfl
            exact ⟨(zOK_put hz (th3_r _ _ _)), QP_th hR, (zput_s _ _ _ _).trans (th3_2 hw (fun q => q hw2))⟩
          · have h62 := zb_n.mp h62
            exact absurd (by assumption : ((0 ≤ x ∧ x < D 1 0) ∧ 0 ≤ y ∧ y < D 1 0) ∧ (¬ x = y) ∧ (((0 ≤ x ∧ x < D 1 0) ∧ 0 ≤ y ∧ y < D 1 0) ∧ hasDev D x.toNat u)) (fun q => q.2.1 hw2)
        · have h39 := zb_n.mp h39
          refine zx_aloadN dX10_transferDevice_42 rfl rfl ?_
          refine zx_iloadN dX10_transferDevice_43 rfl rfl ?_
          refine zy_top (b := ((x.toNat : Nat) : Int)) (by omega) ?_
          refine zx_iloadN dX10_transferDevice_44 rfl rfl ?_
          refine zy_cv [zi ((x.toNat : Nat) : Int), zi u] (sX10_ownsDevice (D := D) (p := x.toNat) hfl hz (by first | assumption | omega) (by first | assumption | (refine Rel_put (by decide) ?_; assumption) | (refine Rel_put (by decide) (Rel_put (by decide) ?_); assumption) | (refine Rel_put (by decide) (Rel_put (by decide) (Rel_put (by decide) ?_)); assumption)) (by first | assumption | omega) (by first | exact hz _ _ | assumption | exact zr_b _ | exact zcmp_r _ _ | (unfold zr at *; omega))) dX10_transferDevice_45 (by decide) rfl cw_RX10_90 okX10_ownsDevice rfl (Nat.le_of_ble_eq_true rfl) ⟨Nat.le_of_ble_eq_true rfl, Nat.le_of_ble_eq_true rfl, Nat.le_of_ble_eq_true rfl, Nat.le_of_ble_eq_true rfl⟩ ?_
          refine zx_if_eq (tgt := 55) (by first | exact hz _ _ | assumption | exact zr_b _ | exact zcmp_r _ _ | (unfold zr at *; omega)) dX10_transferDevice_48 (by decide) (fun h48 => ?_) (fun h48 => ?_)
          · have h48 := zb_0.mp h48
            refine zx_iconst dX10_transferDevice_55 ?_
            refine zy_top (b := zb (((0 ≤ x ∧ x < D 1 0) ∧ 0 ≤ y ∧ y < D 1 0) ∧ hasDev D x.toNat u)) (by first | exact (zb_t (by exact ⟨by assumption, by assumption⟩)).symm | exact (zb_f (fun q => absurd q.1 (by assumption))).symm | exact (zb_f (fun q => absurd q.2 (by assumption))).symm) ?_
            refine zy_cv [zi (zb ((0 ≤ x ∧ x < D 1 0) ∧ 0 ≤ y ∧ y < D 1 0)), zi (zb (¬ x = y)), zi (zb (((0 ≤ x ∧ x < D 1 0) ∧ 0 ≤ y ∧ y < D 1 0) ∧ hasDev D x.toNat u))] (sX10_passesAll (A := ((0 ≤ x ∧ x < D 1 0) ∧ 0 ≤ y ∧ y < D 1 0)) (B := (¬ x = y)) (C := (((0 ≤ x ∧ x < D 1 0) ∧ 0 ≤ y ∧ y < D 1 0) ∧ hasDev D x.toNat u)) hfl hz ) dX10_transferDevice_56 (by decide) rfl cw_RX10_462 okX10_passesAll rfl (Nat.le_of_ble_eq_true rfl) ⟨Nat.le_of_ble_eq_true rfl, Nat.le_of_ble_eq_true rfl, Nat.le_of_ble_eq_true rfl, Nat.le_of_ble_eq_true rfl⟩ ?_
            refine zy_cv [zi (zb (((0 ≤ x ∧ x < D 1 0) ∧ 0 ≤ y ∧ y < D 1 0) ∧ (¬ x = y) ∧ (((0 ≤ x ∧ x < D 1 0) ∧ 0 ≤ y ∧ y < D 1 0) ∧ hasDev D x.toNat u)))] (sX10_tried_f (A := (((0 ≤ x ∧ x < D 1 0) ∧ 0 ≤ y ∧ y < D 1 0) ∧ (¬ x = y) ∧ (((0 ≤ x ∧ x < D 1 0) ∧ 0 ≤ y ∧ y < D 1 0) ∧ hasDev D x.toNat u))) hfl (zOK_put hz (th3_r _ _ _)) (fun q => q.2.1 hw2)) dX10_transferDevice_59 (by decide) rfl cw_RX10_449 okX10_tried rfl (Nat.le_of_ble_eq_true rfl) ⟨Nat.le_of_ble_eq_true rfl, Nat.le_of_ble_eq_true rfl, Nat.le_of_ble_eq_true rfl, Nat.le_of_ble_eq_true rfl⟩ ?_
            refine zx_if_eq (tgt := 79) (by first | exact hz _ _ | assumption | exact zr_b _ | exact zcmp_r _ _ | (unfold zr at *; omega)) dX10_transferDevice_62 (by decide) (fun h62 => ?_) (fun h62 => ?_)
            · have h62 := zb_0.mp h62
              refine zx_iconst dX10_transferDevice_79 ?_
              refine zx_iret rfl rfl dX10_transferDevice_80 ?_
              rw [hQ]
              refine ⟨congrArg (fun z : Int => (Sum.inl (some (zi z)) : Option zV ⊕ String)) ?_, ?_⟩
              · rfl
              exact ⟨(zOK_put hz (th3_r _ _ _)), QP_th hR, (zput_s _ _ _ _).trans (th3_2 hw (fun q => q hw2))⟩
            · have h62 := zb_n.mp h62
              exact absurd (by assumption : ((0 ≤ x ∧ x < D 1 0) ∧ 0 ≤ y ∧ y < D 1 0) ∧ (¬ x = y) ∧ (((0 ≤ x ∧ x < D 1 0) ∧ 0 ≤ y ∧ y < D 1 0) ∧ hasDev D x.toNat u)) (fun q => q.2.1 hw2)
          · have h48 := zb_n.mp h48
            refine zx_iconst dX10_transferDevice_51 ?_
            refine zx_goto (tgt := 56) dX10_transferDevice_52 (by decide) ?_
            refine zy_top (b := zb (((0 ≤ x ∧ x < D 1 0) ∧ 0 ≤ y ∧ y < D 1 0) ∧ hasDev D x.toNat u)) (by first | exact (zb_t (by exact ⟨by assumption, by assumption⟩)).symm | exact (zb_f (fun q => absurd q.1 (by assumption))).symm | exact (zb_f (fun q => absurd q.2 (by assumption))).symm) ?_
            refine zy_cv [zi (zb ((0 ≤ x ∧ x < D 1 0) ∧ 0 ≤ y ∧ y < D 1 0)), zi (zb (¬ x = y)), zi (zb (((0 ≤ x ∧ x < D 1 0) ∧ 0 ≤ y ∧ y < D 1 0) ∧ hasDev D x.toNat u))] (sX10_passesAll (A := ((0 ≤ x ∧ x < D 1 0) ∧ 0 ≤ y ∧ y < D 1 0)) (B := (¬ x = y)) (C := (((0 ≤ x ∧ x < D 1 0) ∧ 0 ≤ y ∧ y < D 1 0) ∧ hasDev D x.toNat u)) hfl hz ) dX10_transferDevice_56 (by decide) rfl cw_RX10_462 okX10_passesAll rfl (Nat.le_of_ble_eq_true rfl) ⟨Nat.le_of_ble_eq_true rfl, Nat.le_of_ble_eq_true rfl, Nat.le_of_ble_eq_true rfl, Nat.le_of_ble_eq_true rfl⟩ ?_
            refine zy_cv [zi (zb (((0 ≤ x ∧ x < D 1 0) ∧ 0 ≤ y ∧ y < D 1 0) ∧ (¬ x = y) ∧ (((0 ≤ x ∧ x < D 1 0) ∧ 0 ≤ y ∧ y < D 1 0) ∧ hasDev D x.toNat u)))] (sX10_tried_f (A := (((0 ≤ x ∧ x < D 1 0) ∧ 0 ≤ y ∧ y < D 1 0) ∧ (¬ x = y) ∧ (((0 ≤ x ∧ x < D 1 0) ∧ 0 ≤ y ∧ y < D 1 0) ∧ hasDev D x.toNat u))) hfl (zOK_put hz (th3_r _ _ _)) (fun q => q.2.1 hw2)) dX10_transferDevice_59 (by decide) rfl cw_RX10_449 okX10_tried rfl (Nat.le_of_ble_eq_true rfl) ⟨Nat.le_of_ble_eq_true rfl, Nat.le_of_ble_eq_true rfl, Nat.le_of_ble_eq_true rfl, Nat.le_of_ble_eq_true rfl⟩ ?_
            refine zx_if_eq (tgt := 79) (by first | exact hz _ _ | assumption | exact zr_b _ | exact zcmp_r _ _ | (unfold zr at *; omega)) dX10_transferDevice_62 (by decide) (fun h62 => ?_) (fun h62 => ?_)
            · have h62 := zb_0.mp h62
              refine zx_iconst dX10_transferDevice_79 ?_
              refine zx_iret rfl rfl dX10_transferDevice_80 ?_
              rw [hQ]
              refine ⟨congrArg (fun z : Int => (Sum.inl (some (zi z)) : Option zV ⊕ String)) ?_, ?_⟩
              · rfl
              exact ⟨(zOK_put hz (th3_r _ _ _)), QP_th hR, (zput_s _ _ _ _).trans (th3_2 hw (fun q => q hw2))⟩
            · have h62 := zb_n.mp h62
              exact absurd (by assumption : ((0 ≤ x ∧ x < D 1 0) ∧ 0 ≤ y ∧ y < D 1 0) ∧ (¬ x = y) ∧ (((0 ≤ x ∧ x < D 1 0) ∧ 0 ≤ y ∧ y < D 1 0) ∧ hasDev D x.toNat u)) (fun q => q.2.1 hw2)
      · refine zx_iconst dX10_transferDevice_32 ?_
        refine zx_goto (tgt := 37) dX10_transferDevice_33 (by decide) ?_
        refine zy_top (b := zb (¬ x = y)) (by first | exact (zb_t (by assumption)).symm | exact (zb_t (by omega)).symm | exact (zb_f (by omega)).symm | exact (zb_f (by assumption)).symm | exact (zb_f (fun q => q (by assumption))).symm) ?_
        refine zx_iload dX10_transferDevice_37 rfl ?_
        refine zx_if_eq (tgt := 55) (by first | exact hz _ _ | assumption | exact zr_b _ | exact zcmp_r _ _ | (unfold zr at *; omega)) dX10_transferDevice_39 (by decide) (fun h39 => ?_) (fun h39 => ?_)
        · have h39 := zb_0.mp h39
          refine zx_iconst dX10_transferDevice_55 ?_
          refine zy_top (b := zb (((0 ≤ x ∧ x < D 1 0) ∧ 0 ≤ y ∧ y < D 1 0) ∧ hasDev D x.toNat u)) (by first | exact (zb_t (by exact ⟨by assumption, by assumption⟩)).symm | exact (zb_f (fun q => absurd q.1 (by assumption))).symm | exact (zb_f (fun q => absurd q.2 (by assumption))).symm) ?_
          refine zy_cv [zi (zb ((0 ≤ x ∧ x < D 1 0) ∧ 0 ≤ y ∧ y < D 1 0)), zi (zb (¬ x = y)), zi (zb (((0 ≤ x ∧ x < D 1 0) ∧ 0 ≤ y ∧ y < D 1 0) ∧ hasDev D x.toNat u))] (sX10_passesAll (A := ((0 ≤ x ∧ x < D 1 0) ∧ 0 ≤ y ∧ y < D 1 0)) (B := (¬ x = y)) (C := (((0 ≤ x ∧ x < D 1 0) ∧ 0 ≤ y ∧ y < D 1 0) ∧ hasDev D x.toNat u)) hfl hz ) dX10_transferDevice_56 (by decide) rfl cw_RX10_462 okX10_passesAll rfl (Nat.le_of_ble_eq_true rfl) ⟨Nat.le_of_ble_eq_true rfl, Nat.le_of_ble_eq_true rfl, Nat.le_of_ble_eq_true rfl, Nat.le_of_ble_eq_true rfl⟩ ?_
          refine zy_cv [zi (zb (((0 ≤ x ∧ x < D 1 0) ∧ 0 ≤ y ∧ y < D 1 0) ∧ (¬ x = y) ∧ (((0 ≤ x ∧ x < D 1 0) ∧ 0 ≤ y ∧ y < D 1 0) ∧ hasDev D x.toNat u)))] (sX10_tried_f (A := (((0 ≤ x ∧ x < D 1 0) ∧ 0 ≤ y ∧ y < D 1 0) ∧ (¬ x = y) ∧ (((0 ≤ x ∧ x < D 1 0) ∧ 0 ≤ y ∧ y < D 1 0) ∧ hasDev D x.toNat u))) hfl (zOK_put hz (th3_r _ _ _)) (fun q => q.2.1 hw2)) dX10_transferDevice_59 (by decide) rfl cw_RX10_449 okX10_tried rfl (Nat.le_of_ble_eq_true rfl) ⟨Nat.le_of_ble_eq_true rfl, Nat.le_of_ble_eq_true rfl, Nat.le_of_ble_eq_true rfl, Nat.le_of_ble_eq_true rfl⟩ ?_
          refine zx_if_eq (tgt := 79) (by first | exact hz _ _ | assumption | exact zr_b _ | exact zcmp_r _ _ | (unfold zr at *; omega)) dX10_transferDevice_62 (by decide) (fun h62 => ?_) (fun h62 => ?_)
          · have h62 := zb_0.mp h62
            refine zx_iconst dX10_transferDevice_79 ?_
            refine zx_iret rfl rfl dX10_transferDevice_80 ?_
            rw [hQ]
            refine ⟨congrArg (fun z : Int => (Sum.inl (some (zi z)) : Option zV ⊕ String)) ?_, ?_⟩
            · rfl
            exact ⟨(zOK_put hz (th3_r _ _ _)), QP_th hR, (zput_s _ _ _ _).trans (th3_2 hw (fun q => q hw2))⟩
          · have h62 := zb_n.mp h62
            exact absurd (by assumption : ((0 ≤ x ∧ x < D 1 0) ∧ 0 ≤ y ∧ y < D 1 0) ∧ (¬ x = y) ∧ (((0 ≤ x ∧ x < D 1 0) ∧ 0 ≤ y ∧ y < D 1 0) ∧ hasDev D x.toNat u)) (fun q => q.2.1 hw2)
        · have h39 := zb_n.mp h39
          refine zx_aloadN dX10_transferDevice_42 rfl rfl ?_
          refine zx_iloadN dX10_transferDevice_43 rfl rfl ?_
          refine zy_top (b := ((x.toNat : Nat) : Int)) (by omega) ?_
          refine zx_iloadN dX10_transferDevice_44 rfl rfl ?_
          refine zy_cv [zi ((x.toNat : Nat) : Int), zi u] (sX10_ownsDevice (D := D) (p := x.toNat) hfl hz (by first | assumption | omega) (by first | assumption | (refine Rel_put (by decide) ?_; assumption) | (refine Rel_put (by decide) (Rel_put (by decide) ?_); assumption) | (refine Rel_put (by decide) (Rel_put (by decide) (Rel_put (by decide) ?_)); assumption)) (by first | assumption | omega) (by first | exact hz _ _ | assumption | exact zr_b _ | exact zcmp_r _ _ | (unfold zr at *; omega))) dX10_transferDevice_45 (by decide) rfl cw_RX10_90 okX10_ownsDevice rfl (Nat.le_of_ble_eq_true rfl) ⟨Nat.le_of_ble_eq_true rfl, Nat.le_of_ble_eq_true rfl, Nat.le_of_ble_eq_true rfl, Nat.le_of_ble_eq_true rfl⟩ ?_
          refine zx_if_eq (tgt := 55) (by first | exact hz _ _ | assumption | exact zr_b _ | exact zcmp_r _ _ | (unfold zr at *; omega)) dX10_transferDevice_48 (by decide) (fun h48 => ?_) (fun h48 => ?_)
          · have h48 := zb_0.mp h48
            refine zx_iconst dX10_transferDevice_55 ?_
            refine zy_top (b := zb (((0 ≤ x ∧ x < D 1 0) ∧ 0 ≤ y ∧ y < D 1 0) ∧ hasDev D x.toNat u)) (by first | exact (zb_t (by exact ⟨by assumption, by assumption⟩)).symm | exact (zb_f (fun q => absurd q.1 (by assumption))).symm | exact (zb_f (fun q => absurd q.2 (by assumption))).symm) ?_
            refine zy_cv [zi (zb ((0 ≤ x ∧ x < D 1 0) ∧ 0 ≤ y ∧ y < D 1 0)), zi (zb (¬ x = y)), zi (zb (((0 ≤ x ∧ x < D 1 0) ∧ 0 ≤ y ∧ y < D 1 0) ∧ hasDev D x.toNat u))] (sX10_passesAll (A := ((0 ≤ x ∧ x < D 1 0) ∧ 0 ≤ y ∧ y < D 1 0)) (B := (¬ x = y)) (C := (((0 ≤ x ∧ x < D 1 0) ∧ 0 ≤ y ∧ y < D 1 0) ∧ hasDev D x.toNat u)) hfl hz ) dX10_transferDevice_56 (by decide) rfl cw_RX10_462 okX10_passesAll rfl (Nat.le_of_ble_eq_true rfl) ⟨Nat.le_of_ble_eq_true rfl, Nat.le_of_ble_eq_true rfl, Nat.le_of_ble_eq_true rfl, Nat.le_of_ble_eq_true rfl⟩ ?_
            refine zy_cv [zi (zb (((0 ≤ x ∧ x < D 1 0) ∧ 0 ≤ y ∧ y < D 1 0) ∧ (¬ x = y) ∧ (((0 ≤ x ∧ x < D 1 0) ∧ 0 ≤ y ∧ y < D 1 0) ∧ hasDev D x.toNat u)))] (sX10_tried_f (A := (((0 ≤ x ∧ x < D 1 0) ∧ 0 ≤ y ∧ y < D 1 0) ∧ (¬ x = y) ∧ (((0 ≤ x ∧ x < D 1 0) ∧ 0 ≤ y ∧ y < D 1 0) ∧ hasDev D x.toNat u))) hfl (zOK_put hz (th3_r _ _ _)) (fun q => q.2.1 hw2)) dX10_transferDevice_59 (by decide) rfl cw_RX10_449 okX10_tried rfl (Nat.le_of_ble_eq_true rfl) ⟨Nat.le_of_ble_eq_true rfl, Nat.le_of_ble_eq_true rfl, Nat.le_of_ble_eq_true rfl, Nat.le_of_ble_eq_true rfl⟩ ?_
            refine zx_if_eq (tgt := 79) (by first | exact hz _ _ | assumption | exact zr_b _ | exact zcmp_r _ _ | (unfold zr at *; omega)) dX10_transferDevice_62 (by decide) (fun h62 => ?_) (fun h62 => ?_)
            · have h62 := zb_0.mp h62
              refine zx_iconst dX10_transferDevice_79 ?_
              refine zx_iret rfl rfl dX10_transferDevice_80 ?_
              rw [hQ]
              refine ⟨congrArg (fun z : Int => (Sum.inl (some (zi z)) : Option zV ⊕ String)) ?_, ?_⟩
              · rfl
              exact ⟨(zOK_put hz (th3_r _ _ _)), QP_th hR, (zput_s _ _ _ _).trans (th3_2 hw (fun q => q hw2))⟩
            · have h62 := zb_n.mp h62
              exact absurd (by assumption : ((0 ≤ x ∧ x < D 1 0) ∧ 0 ≤ y ∧ y < D 1 0) ∧ (¬ x = y) ∧ (((0 ≤ x ∧ x < D 1 0) ∧ 0 ≤ y ∧ y < D 1 0) ∧ hasDev D x.toNat u)) (fun q => q.2.1 hw2)
          · have h48 := zb_n.mp h48
            refine zx_iconst dX10_transferDevice_51 ?_
            refine zx_goto (tgt := 56) dX10_transferDevice_52 (by decide) ?_
            refine zy_top (b := zb (((0 ≤ x ∧ x < D 1 0) ∧ 0 ≤ y ∧ y < D 1 0) ∧ hasDev D x.toNat u)) (by first | exact (zb_t (by exact ⟨by assumption, by assumption⟩)).symm | exact (zb_f (fun q => absurd q.1 (by assumption))).symm | exact (zb_f (fun q => absurd q.2 (by assumption))).symm) ?_
            refine zy_cv [zi (zb ((0 ≤ x ∧ x < D 1 0) ∧ 0 ≤ y ∧ y < D 1 0)), zi (zb (¬ x = y)), zi (zb (((0 ≤ x ∧ x < D 1 0) ∧ 0 ≤ y ∧ y < D 1 0) ∧ hasDev D x.toNat u))] (sX10_passesAll (A := ((0 ≤ x ∧ x < D 1 0) ∧ 0 ≤ y ∧ y < D 1 0)) (B := (¬ x = y)) (C := (((0 ≤ x ∧ x < D 1 0) ∧ 0 ≤ y ∧ y < D 1 0) ∧ hasDev D x.toNat u)) hfl hz ) dX10_transferDevice_56 (by decide) rfl cw_RX10_462 okX10_passesAll rfl (Nat.le_of_ble_eq_true rfl) ⟨Nat.le_of_ble_eq_true rfl, Nat.le_of_ble_eq_true rfl, Nat.le_of_ble_eq_true rfl, Nat.le_of_ble_eq_true rfl⟩ ?_
            refine zy_cv [zi (zb (((0 ≤ x ∧ x < D 1 0) ∧ 0 ≤ y ∧ y < D 1 0) ∧ (¬ x = y) ∧ (((0 ≤ x ∧ x < D 1 0) ∧ 0 ≤ y ∧ y < D 1 0) ∧ hasDev D x.toNat u)))] (sX10_tried_f (A := (((0 ≤ x ∧ x < D 1 0) ∧ 0 ≤ y ∧ y < D 1 0) ∧ (¬ x = y) ∧ (((0 ≤ x ∧ x < D 1 0) ∧ 0 ≤ y ∧ y < D 1 0) ∧ hasDev D x.toNat u))) hfl (zOK_put hz (th3_r _ _ _)) (fun q => q.2.1 hw2)) dX10_transferDevice_59 (by decide) rfl cw_RX10_449 okX10_tried rfl (Nat.le_of_ble_eq_true rfl) ⟨Nat.le_of_ble_eq_true rfl, Nat.le_of_ble_eq_true rfl, Nat.le_of_ble_eq_true rfl, Nat.le_of_ble_eq_true rfl⟩ ?_
            refine zx_if_eq (tgt := 79) (by first | exact hz _ _ | assumption | exact zr_b _ | exact zcmp_r _ _ | (unfold zr at *; omega)) dX10_transferDevice_62 (by decide) (fun h62 => ?_) (fun h62 => ?_)
            · have h62 := zb_0.mp h62
              refine zx_iconst dX10_transferDevice_79 ?_
              refine zx_iret rfl rfl dX10_transferDevice_80 ?_
              rw [hQ]
              refine ⟨congrArg (fun z : Int => (Sum.inl (some (zi z)) : Option zV ⊕ String)) ?_, ?_⟩
              · rfl
              exact ⟨(zOK_put hz (th3_r _ _ _)), QP_th hR, (zput_s _ _ _ _).trans (th3_2 hw (fun q => q hw2))⟩
            · have h62 := zb_n.mp h62
              exact absurd (by assumption : ((0 ≤ x ∧ x < D 1 0) ∧ 0 ≤ y ∧ y < D 1 0) ∧ (¬ x = y) ∧ (((0 ≤ x ∧ x < D 1 0) ∧ 0 ≤ y ∧ y < D 1 0) ∧ hasDev D x.toNat u)) (fun q => q.2.1 hw2)
set_option maxRecDepth 20000 in
set_option maxHeartbeats 2000000 in
theorem sX10_transferDevice_t3 {l : Launch} {w : zW} (hfl : l.stackTraces = false) {σ : zS} {D : zBk} {x y u : Int} (hz : zOK σ) (hW : WF D) (hR : Rel D (σ.1 262)) (hx : zr x) (hy : zr y) (hu : zr u) (hw : (0 ≤ x ∧ x < D 1 0) ∧ 0 ≤ y ∧ y < D 1 0) (hw2 : ¬ x = y) (hw3 : ¬ hasDev D x.toNat u) : Sp l w mX10_transferDevice 5 0 [zf 10 261, zi x, zi y, zi u] σ (zqv (some (zi 0)) (fun τ => zOK τ ∧ QP D σ τ ∧ τ.1 261 6 = 3)) := by
  obtain ⟨Q, hQ⟩ : ∃ Q : zQ, Q = (zqv (some (zi 0)) (fun τ => zOK τ ∧ QP D σ τ ∧ τ.1 261 6 = 3)) := ⟨_, rfl⟩
  rw [← hQ]
  refine zx_enter hfl (by decide) rfl 1 rfl ?_
  show zX l w mX10_transferDevice (zMQ w 5 0 Q) 0 [zf 10 261, zi x, zi y, zi u, zu] [] 0 σ
  have hP : 0 ≤ D 1 0 ∧ D 1 0 ≤ 8 := hW.1.1
  have hM : 0 ≤ D 1 7 ∧ D 1 7 ≤ 8 := hW.1.2.1
  have hE : 0 ≤ D 1 10 ∧ D 1 10 ≤ 12 := hW.1.2.2.1
  have hK : 0 ≤ D 12 0 ∧ D 12 0 ≤ 40 := hW.1.2.2.2
  have r0 : σ.1 262 0 = D 1 0 := hR.1.1
  have r1 : σ.1 262 1 = D 1 7 := hR.1.2.1
  have r2 : σ.1 262 2 = D 1 10 := hR.1.2.2.1
  have r3 : σ.1 262 3 = D 12 0 := hR.1.2.2.2
  refine zx_aloadN dX10_transferDevice_0 rfl rfl ?_
  refine zx_iloadN dX10_transferDevice_1 rfl rfl ?_
  refine zy_cv [zi x] (sX10_isPrinter (D := D) hfl hz (by first | assumption | omega) (by first | assumption | (refine Rel_put (by decide) ?_; assumption) | (refine Rel_put (by decide) (Rel_put (by decide) ?_); assumption) | (refine Rel_put (by decide) (Rel_put (by decide) (Rel_put (by decide) ?_)); assumption)) (by first | exact hz _ _ | assumption | exact zr_b _ | exact zcmp_r _ _ | (unfold zr at *; omega))) dX10_transferDevice_2 (by decide) rfl cw_RX10_400 okX10_isPrinter rfl (Nat.le_of_ble_eq_true rfl) ⟨Nat.le_of_ble_eq_true rfl, Nat.le_of_ble_eq_true rfl, Nat.le_of_ble_eq_true rfl, Nat.le_of_ble_eq_true rfl⟩ ?_
  refine zx_if_eq (tgt := 20) (by first | exact hz _ _ | assumption | exact zr_b _ | exact zcmp_r _ _ | (unfold zr at *; omega)) dX10_transferDevice_5 (by decide) (fun h5 => ?_) (fun h5 => ?_)
  · have h5 := zb_0.mp h5
    refine zx_iconst dX10_transferDevice_20 ?_
    refine zy_top (b := zb ((0 ≤ x ∧ x < D 1 0) ∧ 0 ≤ y ∧ y < D 1 0)) (by first | exact (zb_t (by exact ⟨by assumption, by assumption⟩)).symm | exact (zb_f (fun q => absurd q.1 (by assumption))).symm | exact (zb_f (fun q => absurd q.2 (by assumption))).symm) ?_
    refine zy_istore [zf 10 261, zi x, zi y, zi u, zi (zb ((0 ≤ x ∧ x < D 1 0) ∧ 0 ≤ y ∧ y < D 1 0))] dX10_transferDevice_21 (Nat.le_of_ble_eq_true rfl) (Nat.le_of_ble_eq_true rfl) rfl rfl ?_
    refine zx_aloadN dX10_transferDevice_23 rfl rfl ?_
    refine zx_aloadN dX10_transferDevice_24 rfl rfl ?_
    refine zx_iload dX10_transferDevice_25 rfl ?_
    refine zx_iloadN dX10_transferDevice_27 rfl rfl ?_
    refine zx_iloadN dX10_transferDevice_28 rfl rfl ?_
    refine zx_icmp_eq (tgt := 36) (by first | exact hz _ _ | assumption | exact zr_b _ | exact zcmp_r _ _ | (unfold zr at *; omega)) (by first | exact hz _ _ | assumption | exact zr_b _ | exact zcmp_r _ _ | (unfold zr at *; omega)) dX10_transferDevice_29 (by decide) (fun h29 => ?_) (fun h29 => ?_)
    · refine zx_iconst dX10_transferDevice_36 ?_
      refine zy_top (b := zb (¬ x = y)) (by first | exact (zb_t (by assumption)).symm | exact (zb_t (by omega)).symm | exact (zb_f (by omega)).symm | exact (zb_f (by assumption)).symm | exact (zb_f (fun q => q (by assumption))).symm) ?_
      refine zx_iload dX10_transferDevice_37 rfl ?_
      refine zx_if_eq (tgt := 55) (by first | exact hz _ _ | assumption | exact zr_b _ | exact zcmp_r _ _ | (unfold zr at *; omega)) dX10_transferDevice_39 (by decide) (fun h39 => ?_) (fun h39 => ?_)
      · have h39 := zb_0.mp h39
        refine zx_iconst dX10_transferDevice_55 ?_
        refine zy_top (b := zb (((0 ≤ x ∧ x < D 1 0) ∧ 0 ≤ y ∧ y < D 1 0) ∧ hasDev D x.toNat u)) (by first | exact (zb_t (by exact ⟨by assumption, by assumption⟩)).symm | exact (zb_f (fun q => absurd q.1 (by assumption))).symm | exact (zb_f (fun q => absurd q.2 (by assumption))).symm) ?_
        refine zy_cv [zi (zb ((0 ≤ x ∧ x < D 1 0) ∧ 0 ≤ y ∧ y < D 1 0)), zi (zb (¬ x = y)), zi (zb (((0 ≤ x ∧ x < D 1 0) ∧ 0 ≤ y ∧ y < D 1 0) ∧ hasDev D x.toNat u))] (sX10_passesAll (A := ((0 ≤ x ∧ x < D 1 0) ∧ 0 ≤ y ∧ y < D 1 0)) (B := (¬ x = y)) (C := (((0 ≤ x ∧ x < D 1 0) ∧ 0 ≤ y ∧ y < D 1 0) ∧ hasDev D x.toNat u)) hfl hz ) dX10_transferDevice_56 (by decide) rfl cw_RX10_462 okX10_passesAll rfl (Nat.le_of_ble_eq_true rfl) ⟨Nat.le_of_ble_eq_true rfl, Nat.le_of_ble_eq_true rfl, Nat.le_of_ble_eq_true rfl, Nat.le_of_ble_eq_true rfl⟩ ?_
        refine zy_cv [zi (zb (((0 ≤ x ∧ x < D 1 0) ∧ 0 ≤ y ∧ y < D 1 0) ∧ (¬ x = y) ∧ (((0 ≤ x ∧ x < D 1 0) ∧ 0 ≤ y ∧ y < D 1 0) ∧ hasDev D x.toNat u)))] (sX10_tried_f (A := (((0 ≤ x ∧ x < D 1 0) ∧ 0 ≤ y ∧ y < D 1 0) ∧ (¬ x = y) ∧ (((0 ≤ x ∧ x < D 1 0) ∧ 0 ≤ y ∧ y < D 1 0) ∧ hasDev D x.toNat u))) hfl (zOK_put hz (th3_r _ _ _)) (fun q => hw3 q.2.2.2)) dX10_transferDevice_59 (by decide) rfl cw_RX10_449 okX10_tried rfl (Nat.le_of_ble_eq_true rfl) ⟨Nat.le_of_ble_eq_true rfl, Nat.le_of_ble_eq_true rfl, Nat.le_of_ble_eq_true rfl, Nat.le_of_ble_eq_true rfl⟩ ?_
        refine zx_if_eq (tgt := 79) (by first | exact hz _ _ | assumption | exact zr_b _ | exact zcmp_r _ _ | (unfold zr at *; omega)) dX10_transferDevice_62 (by decide) (fun h62 => ?_) (fun h62 => ?_)
        · have h62 := zb_0.mp h62
          refine zx_iconst dX10_transferDevice_79 ?_
          refine zx_iret rfl rfl dX10_transferDevice_80 ?_
          rw [hQ]
          refine ⟨congrArg (fun z : Int => (Sum.inl (some (zi z)) : Option zV ⊕ String)) ?_, ?_⟩
          · rfl
          exact ⟨(zOK_put hz (th3_r _ _ _)), QP_th hR, (zput_s _ _ _ _).trans (th3_3 hw hw2 (fun q => hw3 q.2))⟩
        · have h62 := zb_n.mp h62
          exact absurd (by assumption : ((0 ≤ x ∧ x < D 1 0) ∧ 0 ≤ y ∧ y < D 1 0) ∧ (¬ x = y) ∧ (((0 ≤ x ∧ x < D 1 0) ∧ 0 ≤ y ∧ y < D 1 0) ∧ hasDev D x.toNat u)) (fun q => hw3 q.2.2.2)
      · have h39 := zb_n.mp h39
        refine zx_aloadN dX10_transferDevice_42 rfl rfl ?_
        refine zx_iloadN dX10_transferDevice_43 rfl rfl ?_
        refine zy_top (b := ((x.toNat : Nat) : Int)) (by omega) ?_
        refine zx_iloadN dX10_transferDevice_44 rfl rfl ?_
        refine zy_cv [zi ((x.toNat : Nat) : Int), zi u] (sX10_ownsDevice (D := D) (p := x.toNat) hfl hz (by first | assumption | omega) (by first | assumption | (refine Rel_put (by decide) ?_; assumption) | (refine Rel_put (by decide) (Rel_put (by decide) ?_); assumption) | (refine Rel_put (by decide) (Rel_put (by decide) (Rel_put (by decide) ?_)); assumption)) (by first | assumption | omega) (by first | exact hz _ _ | assumption | exact zr_b _ | exact zcmp_r _ _ | (unfold zr at *; omega))) dX10_transferDevice_45 (by decide) rfl cw_RX10_90 okX10_ownsDevice rfl (Nat.le_of_ble_eq_true rfl) ⟨Nat.le_of_ble_eq_true rfl, Nat.le_of_ble_eq_true rfl, Nat.le_of_ble_eq_true rfl, Nat.le_of_ble_eq_true rfl⟩ ?_
        refine zx_if_eq (tgt := 55) (by first | exact hz _ _ | assumption | exact zr_b _ | exact zcmp_r _ _ | (unfold zr at *; omega)) dX10_transferDevice_48 (by decide) (fun h48 => ?_) (fun h48 => ?_)
        · have h48 := zb_0.mp h48
          refine zx_iconst dX10_transferDevice_55 ?_
          refine zy_top (b := zb (((0 ≤ x ∧ x < D 1 0) ∧ 0 ≤ y ∧ y < D 1 0) ∧ hasDev D x.toNat u)) (by first | exact (zb_t (by exact ⟨by assumption, by assumption⟩)).symm | exact (zb_f (fun q => absurd q.1 (by assumption))).symm | exact (zb_f (fun q => absurd q.2 (by assumption))).symm) ?_
          refine zy_cv [zi (zb ((0 ≤ x ∧ x < D 1 0) ∧ 0 ≤ y ∧ y < D 1 0)), zi (zb (¬ x = y)), zi (zb (((0 ≤ x ∧ x < D 1 0) ∧ 0 ≤ y ∧ y < D 1 0) ∧ hasDev D x.toNat u))] (sX10_passesAll (A := ((0 ≤ x ∧ x < D 1 0) ∧ 0 ≤ y ∧ y < D 1 0)) (B := (¬ x = y)) (C := (((0 ≤ x ∧ x < D 1 0) ∧ 0 ≤ y ∧ y < D 1 0) ∧ hasDev D x.toNat u)) hfl hz ) dX10_transferDevice_56 (by decide) rfl cw_RX10_462 okX10_passesAll rfl (Nat.le_of_ble_eq_true rfl) ⟨Nat.le_of_ble_eq_true rfl, Nat.le_of_ble_eq_true rfl, Nat.le_of_ble_eq_true rfl, Nat.le_of_ble_eq_true rfl⟩ ?_
          refine zy_cv [zi (zb (((0 ≤ x ∧ x < D 1 0) ∧ 0 ≤ y ∧ y < D 1 0) ∧ (¬ x = y) ∧ (((0 ≤ x ∧ x < D 1 0) ∧ 0 ≤ y ∧ y < D 1 0) ∧ hasDev D x.toNat u)))] (sX10_tried_f (A := (((0 ≤ x ∧ x < D 1 0) ∧ 0 ≤ y ∧ y < D 1 0) ∧ (¬ x = y) ∧ (((0 ≤ x ∧ x < D 1 0) ∧ 0 ≤ y ∧ y < D 1 0) ∧ hasDev D x.toNat u))) hfl (zOK_put hz (th3_r _ _ _)) (fun q => hw3 q.2.2.2)) dX10_transferDevice_59 (by decide) rfl cw_RX10_449 okX10_tried rfl (Nat.le_of_ble_eq_true rfl) ⟨Nat.le_of_ble_eq_true rfl, Nat.le_of_ble_eq_true rfl, Nat.le_of_ble_eq_true rfl, Nat.le_of_ble_eq_true rfl⟩ ?_
          refine zx_if_eq (tgt := 79) (by first | exact hz _ _ | assumption | exact zr_b _ | exact zcmp_r _ _ | (unfold zr at *; omega)) dX10_transferDevice_62 (by decide) (fun h62 => ?_) (fun h62 => ?_)
          · have h62 := zb_0.mp h62
            refine zx_iconst dX10_transferDevice_79 ?_
            refine zx_iret rfl rfl dX10_transferDevice_80 ?_
            rw [hQ]
            refine ⟨congrArg (fun z : Int => (Sum.inl (some (zi z)) : Option zV ⊕ String)) ?_, ?_⟩
            · rfl
            exact ⟨(zOK_put hz (th3_r _ _ _)), QP_th hR, (zput_s _ _ _ _).trans (th3_3 hw hw2 (fun q => hw3 q.2))⟩
          · have h62 := zb_n.mp h62
            exact absurd (by assumption : ((0 ≤ x ∧ x < D 1 0) ∧ 0 ≤ y ∧ y < D 1 0) ∧ (¬ x = y) ∧ (((0 ≤ x ∧ x < D 1 0) ∧ 0 ≤ y ∧ y < D 1 0) ∧ hasDev D x.toNat u)) (fun q => hw3 q.2.2.2)
        · have h48 := zb_n.mp h48
          refine zx_iconst dX10_transferDevice_51 ?_
          refine zx_goto (tgt := 56) dX10_transferDevice_52 (by decide) ?_
          refine zy_top (b := zb (((0 ≤ x ∧ x < D 1 0) ∧ 0 ≤ y ∧ y < D 1 0) ∧ hasDev D x.toNat u)) (by first | exact (zb_t (by exact ⟨by assumption, by assumption⟩)).symm | exact (zb_f (fun q => absurd q.1 (by assumption))).symm | exact (zb_f (fun q => absurd q.2 (by assumption))).symm) ?_
          refine zy_cv [zi (zb ((0 ≤ x ∧ x < D 1 0) ∧ 0 ≤ y ∧ y < D 1 0)), zi (zb (¬ x = y)), zi (zb (((0 ≤ x ∧ x < D 1 0) ∧ 0 ≤ y ∧ y < D 1 0) ∧ hasDev D x.toNat u))] (sX10_passesAll (A := ((0 ≤ x ∧ x < D 1 0) ∧ 0 ≤ y ∧ y < D 1 0)) (B := (¬ x = y)) (C := (((0 ≤ x ∧ x < D 1 0) ∧ 0 ≤ y ∧ y < D 1 0) ∧ hasDev D x.toNat u)) hfl hz ) dX10_transferDevice_56 (by decide) rfl cw_RX10_462 okX10_passesAll rfl (Nat.le_of_ble_eq_true rfl) ⟨Nat.le_of_ble_eq_true rfl, Nat.le_of_ble_eq_true rfl, Nat.le_of_ble_eq_true rfl, Nat.le_of_ble_eq_true rfl⟩ ?_
          refine zy_cv [zi (zb (((0 ≤ x ∧ x < D 1 0) ∧ 0 ≤ y ∧ y < D 1 0) ∧ (¬ x = y) ∧ (((0 ≤ x ∧ x < D 1 0) ∧ 0 ≤ y ∧ y < D 1 0) ∧ hasDev D x.toNat u)))] (sX10_tried_f (A := (((0 ≤ x ∧ x < D 1 0) ∧ 0 ≤ y ∧ y < D 1 0) ∧ (¬ x = y) ∧ (((0 ≤ x ∧ x < D 1 0) ∧ 0 ≤ y ∧ y < D 1 0) ∧ hasDev D x.toNat u))) hfl (zOK_put hz (th3_r _ _ _)) (fun q => hw3 q.2.2.2)) dX10_transferDevice_59 (by decide) rfl cw_RX10_449 okX10_tried rfl (Nat.le_of_ble_eq_true rfl) ⟨Nat.le_of_ble_eq_true rfl, Nat.le_of_ble_eq_true rfl, Nat.le_of_ble_eq_true rfl, Nat.le_of_ble_eq_true rfl⟩ ?_
          refine zx_if_eq (tgt := 79) (by first | exact hz _ _ | assumption | exact zr_b _ | exact zcmp_r _ _ | (unfold zr at *; omega)) dX10_transferDevice_62 (by decide) (fun h62 => ?_) (fun h62 => ?_)
          · have h62 := zb_0.mp h62
            refine zx_iconst dX10_transferDevice_79 ?_
            refine zx_iret rfl rfl dX10_transferDevice_80 ?_
            rw [hQ]
            refine ⟨congrArg (fun z : Int => (Sum.inl (some (zi z)) : Option zV ⊕ String)) ?_, ?_⟩
            · rfl
            exact ⟨(zOK_put hz (th3_r _ _ _)), QP_th hR, (zput_s _ _ _ _).trans (th3_3 hw hw2 (fun q => hw3 q.2))⟩
          · have h62 := zb_n.mp h62
            exact absurd (by assumption : ((0 ≤ x ∧ x < D 1 0) ∧ 0 ≤ y ∧ y < D 1 0) ∧ (¬ x = y) ∧ (((0 ≤ x ∧ x < D 1 0) ∧ 0 ≤ y ∧ y < D 1 0) ∧ hasDev D x.toNat u)) (fun q => hw3 q.2.2.2)
    · refine zx_iconst dX10_transferDevice_32 ?_
      refine zx_goto (tgt := 37) dX10_transferDevice_33 (by decide) ?_
      refine zy_top (b := zb (¬ x = y)) (by first | exact (zb_t (by assumption)).symm | exact (zb_t (by omega)).symm | exact (zb_f (by omega)).symm | exact (zb_f (by assumption)).symm | exact (zb_f (fun q => q (by assumption))).symm) ?_
      refine zx_iload dX10_transferDevice_37 rfl ?_
      refine zx_if_eq (tgt := 55) (by first | exact hz _ _ | assumption | exact zr_b _ | exact zcmp_r _ _ | (unfold zr at *; omega)) dX10_transferDevice_39 (by decide) (fun h39 => ?_) (fun h39 => ?_)
      · have h39 := zb_0.mp h39
        refine zx_iconst dX10_transferDevice_55 ?_
        refine zy_top (b := zb (((0 ≤ x ∧ x < D 1 0) ∧ 0 ≤ y ∧ y < D 1 0) ∧ hasDev D x.toNat u)) (by first | exact (zb_t (by exact ⟨by assumption, by assumption⟩)).symm | exact (zb_f (fun q => absurd q.1 (by assumption))).symm | exact (zb_f (fun q => absurd q.2 (by assumption))).symm) ?_
        refine zy_cv [zi (zb ((0 ≤ x ∧ x < D 1 0) ∧ 0 ≤ y ∧ y < D 1 0)), zi (zb (¬ x = y)), zi (zb (((0 ≤ x ∧ x < D 1 0) ∧ 0 ≤ y ∧ y < D 1 0) ∧ hasDev D x.toNat u))] (sX10_passesAll (A := ((0 ≤ x ∧ x < D 1 0) ∧ 0 ≤ y ∧ y < D 1 0)) (B := (¬ x = y)) (C := (((0 ≤ x ∧ x < D 1 0) ∧ 0 ≤ y ∧ y < D 1 0) ∧ hasDev D x.toNat u)) hfl hz ) dX10_transferDevice_56 (by decide) rfl cw_RX10_462 okX10_passesAll rfl (Nat.le_of_ble_eq_true rfl) ⟨Nat.le_of_ble_eq_true rfl, Nat.le_of_ble_eq_true rfl, Nat.le_of_ble_eq_true rfl, Nat.le_of_ble_eq_true rfl⟩ ?_
        refine zy_cv [zi (zb (((0 ≤ x ∧ x < D 1 0) ∧ 0 ≤ y ∧ y < D 1 0) ∧ (¬ x = y) ∧ (((0 ≤ x ∧ x < D 1 0) ∧ 0 ≤ y ∧ y < D 1 0) ∧ hasDev D x.toNat u)))] (sX10_tried_f (A := (((0 ≤ x ∧ x < D 1 0) ∧ 0 ≤ y ∧ y < D 1 0) ∧ (¬ x = y) ∧ (((0 ≤ x ∧ x < D 1 0) ∧ 0 ≤ y ∧ y < D 1 0) ∧ hasDev D x.toNat u))) hfl (zOK_put hz (th3_r _ _ _)) (fun q => hw3 q.2.2.2)) dX10_transferDevice_59 (by decide) rfl cw_RX10_449 okX10_tried rfl (Nat.le_of_ble_eq_true rfl) ⟨Nat.le_of_ble_eq_true rfl, Nat.le_of_ble_eq_true rfl, Nat.le_of_ble_eq_true rfl, Nat.le_of_ble_eq_true rfl⟩ ?_
        refine zx_if_eq (tgt := 79) (by first | exact hz _ _ | assumption | exact zr_b _ | exact zcmp_r _ _ | (unfold zr at *; omega)) dX10_transferDevice_62 (by decide) (fun h62 => ?_) (fun h62 => ?_)
        · have h62 := zb_0.mp h62
          refine zx_iconst dX10_transferDevice_79 ?_
          refine zx_iret rfl rfl dX10_transferDevice_80 ?_
          rw [hQ]
          refine ⟨congrArg (fun z : Int => (Sum.inl (some (zi z)) : Option zV ⊕ String)) ?_, ?_⟩
          · rfl
          exact ⟨(zOK_put hz (th3_r _ _ _)), QP_th hR, (zput_s _ _ _ _).trans (th3_3 hw hw2 (fun q => hw3 q.2))⟩
        · have h62 := zb_n.mp h62
          exact absurd (by assumption : ((0 ≤ x ∧ x < D 1 0) ∧ 0 ≤ y ∧ y < D 1 0) ∧ (¬ x = y) ∧ (((0 ≤ x ∧ x < D 1 0) ∧ 0 ≤ y ∧ y < D 1 0) ∧ hasDev D x.toNat u)) (fun q => hw3 q.2.2.2)
      · have h39 := zb_n.mp h39
        refine zx_aloadN dX10_transferDevice_42 rfl rfl ?_
        refine zx_iloadN dX10_transferDevice_43 rfl rfl ?_
        refine zy_top (b := ((x.toNat : Nat) : Int)) (by omega) ?_
        refine zx_iloadN dX10_transferDevice_44 rfl rfl ?_
        refine zy_cv [zi ((x.toNat : Nat) : Int), zi u] (sX10_ownsDevice (D := D) (p := x.toNat) hfl hz (by first | assumption | omega) (by first | assumption | (refine Rel_put (by decide) ?_; assumption) | (refine Rel_put (by decide) (Rel_put (by decide) ?_); assumption) | (refine Rel_put (by decide) (Rel_put (by decide) (Rel_put (by decide) ?_)); assumption)) (by first | assumption | omega) (by first | exact hz _ _ | assumption | exact zr_b _ | exact zcmp_r _ _ | (unfold zr at *; omega))) dX10_transferDevice_45 (by decide) rfl cw_RX10_90 okX10_ownsDevice rfl (Nat.le_of_ble_eq_true rfl) ⟨Nat.le_of_ble_eq_true rfl, Nat.le_of_ble_eq_true rfl, Nat.le_of_ble_eq_true rfl, Nat.le_of_ble_eq_true rfl⟩ ?_
        refine zx_if_eq (tgt := 55) (by first | exact hz _ _ | assumption | exact zr_b _ | exact zcmp_r _ _ | (unfold zr at *; omega)) dX10_transferDevice_48 (by decide) (fun h48 => ?_) (fun h48 => ?_)
        · have h48 := zb_0.mp h48
          refine zx_iconst dX10_transferDevice_55 ?_
          refine zy_top (b := zb (((0 ≤ x ∧ x < D 1 0) ∧ 0 ≤ y ∧ y < D 1 0) ∧ hasDev D x.toNat u)) (by first | exact (zb_t (by exact ⟨by assumption, by assumption⟩)).symm | exact (zb_f (fun q => absurd q.1 (by assumption))).symm | exact (zb_f (fun q => absurd q.2 (by assumption))).symm) ?_
          refine zy_cv [zi (zb ((0 ≤ x ∧ x < D 1 0) ∧ 0 ≤ y ∧ y < D 1 0)), zi (zb (¬ x = y)), zi (zb (((0 ≤ x ∧ x < D 1 0) ∧ 0 ≤ y ∧ y < D 1 0) ∧ hasDev D x.toNat u))] (sX10_passesAll (A := ((0 ≤ x ∧ x < D 1 0) ∧ 0 ≤ y ∧ y < D 1 0)) (B := (¬ x = y)) (C := (((0 ≤ x ∧ x < D 1 0) ∧ 0 ≤ y ∧ y < D 1 0) ∧ hasDev D x.toNat u)) hfl hz ) dX10_transferDevice_56 (by decide) rfl cw_RX10_462 okX10_passesAll rfl (Nat.le_of_ble_eq_true rfl) ⟨Nat.le_of_ble_eq_true rfl, Nat.le_of_ble_eq_true rfl, Nat.le_of_ble_eq_true rfl, Nat.le_of_ble_eq_true rfl⟩ ?_
          refine zy_cv [zi (zb (((0 ≤ x ∧ x < D 1 0) ∧ 0 ≤ y ∧ y < D 1 0) ∧ (¬ x = y) ∧ (((0 ≤ x ∧ x < D 1 0) ∧ 0 ≤ y ∧ y < D 1 0) ∧ hasDev D x.toNat u)))] (sX10_tried_f (A := (((0 ≤ x ∧ x < D 1 0) ∧ 0 ≤ y ∧ y < D 1 0) ∧ (¬ x = y) ∧ (((0 ≤ x ∧ x < D 1 0) ∧ 0 ≤ y ∧ y < D 1 0) ∧ hasDev D x.toNat u))) hfl (zOK_put hz (th3_r _ _ _)) (fun q => hw3 q.2.2.2)) dX10_transferDevice_59 (by decide) rfl cw_RX10_449 okX10_tried rfl (Nat.le_of_ble_eq_true rfl) ⟨Nat.le_of_ble_eq_true rfl, Nat.le_of_ble_eq_true rfl, Nat.le_of_ble_eq_true rfl, Nat.le_of_ble_eq_true rfl⟩ ?_
          refine zx_if_eq (tgt := 79) (by first | exact hz _ _ | assumption | exact zr_b _ | exact zcmp_r _ _ | (unfold zr at *; omega)) dX10_transferDevice_62 (by decide) (fun h62 => ?_) (fun h62 => ?_)
          · have h62 := zb_0.mp h62
            refine zx_iconst dX10_transferDevice_79 ?_
            refine zx_iret rfl rfl dX10_transferDevice_80 ?_
            rw [hQ]
            refine ⟨congrArg (fun z : Int => (Sum.inl (some (zi z)) : Option zV ⊕ String)) ?_, ?_⟩
            · rfl
            exact ⟨(zOK_put hz (th3_r _ _ _)), QP_th hR, (zput_s _ _ _ _).trans (th3_3 hw hw2 (fun q => hw3 q.2))⟩
          · have h62 := zb_n.mp h62
            exact absurd (by assumption : ((0 ≤ x ∧ x < D 1 0) ∧ 0 ≤ y ∧ y < D 1 0) ∧ (¬ x = y) ∧ (((0 ≤ x ∧ x < D 1 0) ∧ 0 ≤ y ∧ y < D 1 0) ∧ hasDev D x.toNat u)) (fun q => hw3 q.2.2.2)
        · have h48 := zb_n.mp h48
          refine zx_iconst dX10_transferDevice_51 ?_
          refine zx_goto (tgt := 56) dX10_transferDevice_52 (by decide) ?_
          refine zy_top (b := zb (((0 ≤ x ∧ x < D 1 0) ∧ 0 ≤ y ∧ y < D 1 0) ∧ hasDev D x.toNat u)) (by first | exact (zb_t (by exact ⟨by assumption, by assumption⟩)).symm | exact (zb_f (fun q => absurd q.1 (by assumption))).symm | exact (zb_f (fun q => absurd q.2 (by assumption))).symm) ?_
          refine zy_cv [zi (zb ((0 ≤ x ∧ x < D 1 0) ∧ 0 ≤ y ∧ y < D 1 0)), zi (zb (¬ x = y)), zi (zb (((0 ≤ x ∧ x < D 1 0) ∧ 0 ≤ y ∧ y < D 1 0) ∧ hasDev D x.toNat u))] (sX10_passesAll (A := ((0 ≤ x ∧ x < D 1 0) ∧ 0 ≤ y ∧ y < D 1 0)) (B := (¬ x = y)) (C := (((0 ≤ x ∧ x < D 1 0) ∧ 0 ≤ y ∧ y < D 1 0) ∧ hasDev D x.toNat u)) hfl hz ) dX10_transferDevice_56 (by decide) rfl cw_RX10_462 okX10_passesAll rfl (Nat.le_of_ble_eq_true rfl) ⟨Nat.le_of_ble_eq_true rfl, Nat.le_of_ble_eq_true rfl, Nat.le_of_ble_eq_true rfl, Nat.le_of_ble_eq_true rfl⟩ ?_
          refine zy_cv [zi (zb (((0 ≤ x ∧ x < D 1 0) ∧ 0 ≤ y ∧ y < D 1 0) ∧ (¬ x = y) ∧ (((0 ≤ x ∧ x < D 1 0) ∧ 0 ≤ y ∧ y < D 1 0) ∧ hasDev D x.toNat u)))] (sX10_tried_f (A := (((0 ≤ x ∧ x < D 1 0) ∧ 0 ≤ y ∧ y < D 1 0) ∧ (¬ x = y) ∧ (((0 ≤ x ∧ x < D 1 0) ∧ 0 ≤ y ∧ y < D 1 0) ∧ hasDev D x.toNat u))) hfl (zOK_put hz (th3_r _ _ _)) (fun q => hw3 q.2.2.2)) dX10_transferDevice_59 (by decide) rfl cw_RX10_449 okX10_tried rfl (Nat.le_of_ble_eq_true rfl) ⟨Nat.le_of_ble_eq_true rfl, Nat.le_of_ble_eq_true rfl, Nat.le_of_ble_eq_true rfl, Nat.le_of_ble_eq_true rfl⟩ ?_
          refine zx_if_eq (tgt := 79) (by first | exact hz _ _ | assumption | exact zr_b _ | exact zcmp_r _ _ | (unfold zr at *; omega)) dX10_transferDevice_62 (by decide) (fun h62 => ?_) (fun h62 => ?_)
          · have h62 := zb_0.mp h62
            refine zx_iconst dX10_transferDevice_79 ?_
            refine zx_iret rfl rfl dX10_transferDevice_80 ?_
            rw [hQ]
            refine ⟨congrArg (fun z : Int => (Sum.inl (some (zi z)) : Option zV ⊕ String)) ?_, ?_⟩
            · rfl
            exact ⟨(zOK_put hz (th3_r _ _ _)), QP_th hR, (zput_s _ _ _ _).trans (th3_3 hw hw2 (fun q => hw3 q.2))⟩
          · have h62 := zb_n.mp h62
            exact absurd (by assumption : ((0 ≤ x ∧ x < D 1 0) ∧ 0 ≤ y ∧ y < D 1 0) ∧ (¬ x = y) ∧ (((0 ≤ x ∧ x < D 1 0) ∧ 0 ≤ y ∧ y < D 1 0) ∧ hasDev D x.toNat u)) (fun q => hw3 q.2.2.2)
  · have h5 := zb_n.mp h5
    refine zx_aloadN dX10_transferDevice_8 rfl rfl ?_
    refine zx_iloadN dX10_transferDevice_9 rfl rfl ?_
    refine zy_cv [zi y] (sX10_isPrinter (D := D) hfl hz (by first | assumption | omega) (by first | assumption | (refine Rel_put (by decide) ?_; assumption) | (refine Rel_put (by decide) (Rel_put (by decide) ?_); assumption) | (refine Rel_put (by decide) (Rel_put (by decide) (Rel_put (by decide) ?_)); assumption)) (by first | exact hz _ _ | assumption | exact zr_b _ | exact zcmp_r _ _ | (unfold zr at *; omega))) dX10_transferDevice_10 (by decide) rfl cw_RX10_400 okX10_isPrinter rfl (Nat.le_of_ble_eq_true rfl) ⟨Nat.le_of_ble_eq_true rfl, Nat.le_of_ble_eq_true rfl, Nat.le_of_ble_eq_true rfl, Nat.le_of_ble_eq_true rfl⟩ ?_
    refine zx_if_eq (tgt := 20) (by first | exact hz _ _ | assumption | exact zr_b _ | exact zcmp_r _ _ | (unfold zr at *; omega)) dX10_transferDevice_13 (by decide) (fun h13 => ?_) (fun h13 => ?_)
    · have h13 := zb_0.mp h13
      refine zx_iconst dX10_transferDevice_20 ?_
      refine zy_top (b := zb ((0 ≤ x ∧ x < D 1 0) ∧ 0 ≤ y ∧ y < D 1 0)) (by first | exact (zb_t (by exact ⟨by assumption, by assumption⟩)).symm | exact (zb_f (fun q => absurd q.1 (by assumption))).symm | exact (zb_f (fun q => absurd q.2 (by assumption))).symm) ?_
      refine zy_istore [zf 10 261, zi x, zi y, zi u, zi (zb ((0 ≤ x ∧ x < D 1 0) ∧ 0 ≤ y ∧ y < D 1 0))] dX10_transferDevice_21 (Nat.le_of_ble_eq_true rfl) (Nat.le_of_ble_eq_true rfl) rfl rfl ?_
      refine zx_aloadN dX10_transferDevice_23 rfl rfl ?_
      refine zx_aloadN dX10_transferDevice_24 rfl rfl ?_
      refine zx_iload dX10_transferDevice_25 rfl ?_
      refine zx_iloadN dX10_transferDevice_27 rfl rfl ?_
      refine zx_iloadN dX10_transferDevice_28 rfl rfl ?_
      refine zx_icmp_eq (tgt := 36) (by first | exact hz _ _ | assumption | exact zr_b _ | exact zcmp_r _ _ | (unfold zr at *; omega)) (by first | exact hz _ _ | assumption | exact zr_b _ | exact zcmp_r _ _ | (unfold zr at *; omega)) dX10_transferDevice_29 (by decide) (fun h29 => ?_) (fun h29 => ?_)
      · refine zx_iconst dX10_transferDevice_36 ?_
        refine zy_top (b := zb (¬ x = y)) (by first | exact (zb_t (by assumption)).symm | exact (zb_t (by omega)).symm | exact (zb_f (by omega)).symm | exact (zb_f (by assumption)).symm | exact (zb_f (fun q => q (by assumption))).symm) ?_
        refine zx_iload dX10_transferDevice_37 rfl ?_
        refine zx_if_eq (tgt := 55) (by first | exact hz _ _ | assumption | exact zr_b _ | exact zcmp_r _ _ | (unfold zr at *; omega)) dX10_transferDevice_39 (by decide) (fun h39 => ?_) (fun h39 => ?_)
        · have h39 := zb_0.mp h39
          refine zx_iconst dX10_transferDevice_55 ?_
          refine zy_top (b := zb (((0 ≤ x ∧ x < D 1 0) ∧ 0 ≤ y ∧ y < D 1 0) ∧ hasDev D x.toNat u)) (by first | exact (zb_t (by exact ⟨by assumption, by assumption⟩)).symm | exact (zb_f (fun q => absurd q.1 (by assumption))).symm | exact (zb_f (fun q => absurd q.2 (by assumption))).symm) ?_
          refine zy_cv [zi (zb ((0 ≤ x ∧ x < D 1 0) ∧ 0 ≤ y ∧ y < D 1 0)), zi (zb (¬ x = y)), zi (zb (((0 ≤ x ∧ x < D 1 0) ∧ 0 ≤ y ∧ y < D 1 0) ∧ hasDev D x.toNat u))] (sX10_passesAll (A := ((0 ≤ x ∧ x < D 1 0) ∧ 0 ≤ y ∧ y < D 1 0)) (B := (¬ x = y)) (C := (((0 ≤ x ∧ x < D 1 0) ∧ 0 ≤ y ∧ y < D 1 0) ∧ hasDev D x.toNat u)) hfl hz ) dX10_transferDevice_56 (by decide) rfl cw_RX10_462 okX10_passesAll rfl (Nat.le_of_ble_eq_true rfl) ⟨Nat.le_of_ble_eq_true rfl, Nat.le_of_ble_eq_true rfl, Nat.le_of_ble_eq_true rfl, Nat.le_of_ble_eq_true rfl⟩ ?_
          refine zy_cv [zi (zb (((0 ≤ x ∧ x < D 1 0) ∧ 0 ≤ y ∧ y < D 1 0) ∧ (¬ x = y) ∧ (((0 ≤ x ∧ x < D 1 0) ∧ 0 ≤ y ∧ y < D 1 0) ∧ hasDev D x.toNat u)))] (sX10_tried_f (A := (((0 ≤ x ∧ x < D 1 0) ∧ 0 ≤ y ∧ y < D 1 0) ∧ (¬ x = y) ∧ (((0 ≤ x ∧ x < D 1 0) ∧ 0 ≤ y ∧ y < D 1 0) ∧ hasDev D x.toNat u))) hfl (zOK_put hz (th3_r _ _ _)) (fun q => hw3 q.2.2.2)) dX10_transferDevice_59 (by decide) rfl cw_RX10_449 okX10_tried rfl (Nat.le_of_ble_eq_true rfl) ⟨Nat.le_of_ble_eq_true rfl, Nat.le_of_ble_eq_true rfl, Nat.le_of_ble_eq_true rfl, Nat.le_of_ble_eq_true rfl⟩ ?_
          refine zx_if_eq (tgt := 79) (by first | exact hz _ _ | assumption | exact zr_b _ | exact zcmp_r _ _ | (unfold zr at *; omega)) dX10_transferDevice_62 (by decide) (fun h62 => ?_) (fun h62 => ?_)
          · have h62 := zb_0.mp h62
            refine zx_iconst dX10_transferDevice_79 ?_
            refine zx_iret rfl rfl dX10_transferDevice_80 ?_
            rw [hQ]
            refine ⟨congrArg (fun z : Int => (Sum.inl (some (zi z)) : Option zV ⊕ String)) ?_, ?_⟩
            · rfl
            exact ⟨(zOK_put hz (th3_r _ _ _)), QP_th hR, (zput_s _ _ _ _).trans (th3_3 hw hw2 (fun q => hw3 q.2))⟩
          · have h62 := zb_n.mp h62
            exact absurd (by assumption : ((0 ≤ x ∧ x < D 1 0) ∧ 0 ≤ y ∧ y < D 1 0) ∧ (¬ x = y) ∧ (((0 ≤ x ∧ x < D 1 0) ∧ 0 ≤ y ∧ y < D 1 0) ∧ hasDev D x.toNat u)) (fun q => hw3 q.2.2.2)
        · have h39 := zb_n.mp h39
          refine zx_aloadN dX10_transferDevice_42 rfl rfl ?_
          refine zx_iloadN dX10_transferDevice_43 rfl rfl ?_
          refine zy_top (b := ((x.toNat : Nat) : Int)) (by omega) ?_
          refine zx_iloadN dX10_transferDevice_44 rfl rfl ?_
          refine zy_cv [zi ((x.toNat : Nat) : Int), zi u] (sX10_ownsDevice (D := D) (p := x.toNat) hfl hz (by first | assumption | omega) (by first | assumption | (refine Rel_put (by decide) ?_; assumption) | (refine Rel_put (by decide) (Rel_put (by decide) ?_); assumption) | (refine Rel_put (by decide) (Rel_put (by decide) (Rel_put (by decide) ?_)); assumption)) (by first | assumption | omega) (by first | exact hz _ _ | assumption | exact zr_b _ | exact zcmp_r _ _ | (unfold zr at *; omega))) dX10_transferDevice_45 (by decide) rfl cw_RX10_90 okX10_ownsDevice rfl (Nat.le_of_ble_eq_true rfl) ⟨Nat.le_of_ble_eq_true rfl, Nat.le_of_ble_eq_true rfl, Nat.le_of_ble_eq_true rfl, Nat.le_of_ble_eq_true rfl⟩ ?_
          refine zx_if_eq (tgt := 55) (by first | exact hz _ _ | assumption | exact zr_b _ | exact zcmp_r _ _ | (unfold zr at *; omega)) dX10_transferDevice_48 (by decide) (fun h48 => ?_) (fun h48 => ?_)
          · have h48 := zb_0.mp h48
            refine zx_iconst dX10_transferDevice_55 ?_
            refine zy_top (b := zb (((0 ≤ x ∧ x < D 1 0) ∧ 0 ≤ y ∧ y < D 1 0) ∧ hasDev D x.toNat u)) (by first | exact (zb_t (by exact ⟨by assumption, by assumption⟩)).symm | exact (zb_f (fun q => absurd q.1 (by assumption))).symm | exact (zb_f (fun q => absurd q.2 (by assumption))).symm) ?_
            refine zy_cv [zi (zb ((0 ≤ x ∧ x < D 1 0) ∧ 0 ≤ y ∧ y < D 1 0)), zi (zb (¬ x = y)), zi (zb (((0 ≤ x ∧ x < D 1 0) ∧ 0 ≤ y ∧ y < D 1 0) ∧ hasDev D x.toNat u))] (sX10_passesAll (A := ((0 ≤ x ∧ x < D 1 0) ∧ 0 ≤ y ∧ y < D 1 0)) (B := (¬ x = y)) (C := (((0 ≤ x ∧ x < D 1 0) ∧ 0 ≤ y ∧ y < D 1 0) ∧ hasDev D x.toNat u)) hfl hz ) dX10_transferDevice_56 (by decide) rfl cw_RX10_462 okX10_passesAll rfl (Nat.le_of_ble_eq_true rfl) ⟨Nat.le_of_ble_eq_true rfl, Nat.le_of_ble_eq_true rfl, Nat.le_of_ble_eq_true rfl, Nat.le_of_ble_eq_true rfl⟩ ?_
            refine zy_cv [zi (zb (((0 ≤ x ∧ x < D 1 0) ∧ 0 ≤ y ∧ y < D 1 0) ∧ (¬ x = y) ∧ (((0 ≤ x ∧ x < D 1 0) ∧ 0 ≤ y ∧ y < D 1 0) ∧ hasDev D x.toNat u)))] (sX10_tried_f (A := (((0 ≤ x ∧ x < D 1 0) ∧ 0 ≤ y ∧ y < D 1 0) ∧ (¬ x = y) ∧ (((0 ≤ x ∧ x < D 1 0) ∧ 0 ≤ y ∧ y < D 1 0) ∧ hasDev D x.toNat u))) hfl (zOK_put hz (th3_r _ _ _)) (fun q => hw3 q.2.2.2)) dX10_transferDevice_59 (by decide) rfl cw_RX10_449 okX10_tried rfl (Nat.le_of_ble_eq_true rfl) ⟨Nat.le_of_ble_eq_true rfl, Nat.le_of_ble_eq_true rfl, Nat.le_of_ble_eq_true rfl, Nat.le_of_ble_eq_true rfl⟩ ?_
            refine zx_if_eq (tgt := 79) (by first | exact hz _ _ | assumption | exact zr_b _ | exact zcmp_r _ _ | (unfold zr at *; omega)) dX10_transferDevice_62 (by decide) (fun h62 => ?_) (fun h62 => ?_)
            · have h62 := zb_0.mp h62
              refine zx_iconst dX10_transferDevice_79 ?_
              refine zx_iret rfl rfl dX10_transferDevice_80 ?_
              rw [hQ]
              refine ⟨congrArg (fun z : Int => (Sum.inl (some (zi z)) : Option zV ⊕ String)) ?_, ?_⟩
              · rfl
              exact ⟨(zOK_put hz (th3_r _ _ _)), QP_th hR, (zput_s _ _ _ _).trans (th3_3 hw hw2 (fun q => hw3 q.2))⟩
            · have h62 := zb_n.mp h62
              exact absurd (by assumption : ((0 ≤ x ∧ x < D 1 0) ∧ 0 ≤ y ∧ y < D 1 0) ∧ (¬ x = y) ∧ (((0 ≤ x ∧ x < D 1 0) ∧ 0 ≤ y ∧ y < D 1 0) ∧ hasDev D x.toNat u)) (fun q => hw3 q.2.2.2)
          · have h48 := zb_n.mp h48
            refine zx_iconst dX10_transferDevice_51 ?_
            refine zx_goto (tgt := 56) dX10_transferDevice_52 (by decide) ?_
            refine zy_top (b := zb (((0 ≤ x ∧ x < D 1 0) ∧ 0 ≤ y ∧ y < D 1 0) ∧ hasDev D x.toNat u)) (by first | exact (zb_t (by exact ⟨by assumption, by assumption⟩)).symm | exact (zb_f (fun q => absurd q.1 (by assumption))).symm | exact (zb_f (fun q => absurd q.2 (by assumption))).symm) ?_
            refine zy_cv [zi (zb ((0 ≤ x ∧ x < D 1 0) ∧ 0 ≤ y ∧ y < D 1 0)), zi (zb (¬ x = y)), zi (zb (((0 ≤ x ∧ x < D 1 0) ∧ 0 ≤ y ∧ y < D 1 0) ∧ hasDev D x.toNat u))] (sX10_passesAll (A := ((0 ≤ x ∧ x < D 1 0) ∧ 0 ≤ y ∧ y < D 1 0)) (B := (¬ x = y)) (C := (((0 ≤ x ∧ x < D 1 0) ∧ 0 ≤ y ∧ y < D 1 0) ∧ hasDev D x.toNat u)) hfl hz ) dX10_transferDevice_56 (by decide) rfl cw_RX10_462 okX10_passesAll rfl (Nat.le_of_ble_eq_true rfl) ⟨Nat.le_of_ble_eq_true rfl, Nat.le_of_ble_eq_true rfl, Nat.le_of_ble_eq_true rfl, Nat.le_of_ble_eq_true rfl⟩ ?_
            refine zy_cv [zi (zb (((0 ≤ x ∧ x < D 1 0) ∧ 0 ≤ y ∧ y < D 1 0) ∧ (¬ x = y) ∧ (((0 ≤ x ∧ x < D 1 0) ∧ 0 ≤ y ∧ y < D 1 0) ∧ hasDev D x.toNat u)))] (sX10_tried_f (A := (((0 ≤ x ∧ x < D 1 0) ∧ 0 ≤ y ∧ y < D 1 0) ∧ (¬ x = y) ∧ (((0 ≤ x ∧ x < D 1 0) ∧ 0 ≤ y ∧ y < D 1 0) ∧ hasDev D x.toNat u))) hfl (zOK_put hz (th3_r _ _ _)) (fun q => hw3 q.2.2.2)) dX10_transferDevice_59 (by decide) rfl cw_RX10_449 okX10_tried rfl (Nat.le_of_ble_eq_true rfl) ⟨Nat.le_of_ble_eq_true rfl, Nat.le_of_ble_eq_true rfl, Nat.le_of_ble_eq_true rfl, Nat.le_of_ble_eq_true rfl⟩ ?_
            refine zx_if_eq (tgt := 79) (by first | exact hz _ _ | assumption | exact zr_b _ | exact zcmp_r _ _ | (unfold zr at *; omega)) dX10_transferDevice_62 (by decide) (fun h62 => ?_) (fun h62 => ?_)
            · have h62 := zb_0.mp h62
              refine zx_iconst dX10_transferDevice_79 ?_
              refine zx_iret rfl rfl dX10_transferDevice_80 ?_
              rw [hQ]
              refine ⟨congrArg (fun z : Int => (Sum.inl (some (zi z)) : Option zV ⊕ String)) ?_, ?_⟩
              · rfl
              exact ⟨(zOK_put hz (th3_r _ _ _)), QP_th hR, (zput_s _ _ _ _).trans (th3_3 hw hw2 (fun q => hw3 q.2))⟩
            · have h62 := zb_n.mp h62
              exact absurd (by assumption : ((0 ≤ x ∧ x < D 1 0) ∧ 0 ≤ y ∧ y < D 1 0) ∧ (¬ x = y) ∧ (((0 ≤ x ∧ x < D 1 0) ∧ 0 ≤ y ∧ y < D 1 0) ∧ hasDev D x.toNat u)) (fun q => hw3 q.2.2.2)
      · refine zx_iconst dX10_transferDevice_32 ?_
        refine zx_goto (tgt := 37) dX10_transferDevice_33 (by decide) ?_
        refine zy_top (b := zb (¬ x = y)) (by first | exact (zb_t (by assumption)).symm | exact (zb_t (by omega)).symm | exact (zb_f (by omega)).symm | exact (zb_f (by assumption)).symm | exact (zb_f (fun q => q (by assumption))).symm) ?_
        refine zx_iload dX10_transferDevice_37 rfl ?_
        refine zx_if_eq (tgt := 55) (by first | exact hz _ _ | assumption | exact zr_b _ | exact zcmp_r _ _ | (unfold zr at *; omega)) dX10_transferDevice_39 (by decide) (fun h39 => ?_) (fun h39 => ?_)
        · have h39 := zb_0.mp h39
          refine zx_iconst dX10_transferDevice_55 ?_
          refine zy_top (b := zb (((0 ≤ x ∧ x < D 1 0) ∧ 0 ≤ y ∧ y < D 1 0) ∧ hasDev D x.toNat u)) (by first | exact (zb_t (by exact ⟨by assumption, by assumption⟩)).symm | exact (zb_f (fun q => absurd q.1 (by assumption))).symm | exact (zb_f (fun q => absurd q.2 (by assumption))).symm) ?_
          refine zy_cv [zi (zb ((0 ≤ x ∧ x < D 1 0) ∧ 0 ≤ y ∧ y < D 1 0)), zi (zb (¬ x = y)), zi (zb (((0 ≤ x ∧ x < D 1 0) ∧ 0 ≤ y ∧ y < D 1 0) ∧ hasDev D x.toNat u))] (sX10_passesAll (A := ((0 ≤ x ∧ x < D 1 0) ∧ 0 ≤ y ∧ y < D 1 0)) (B := (¬ x = y)) (C := (((0 ≤ x ∧ x < D 1 0) ∧ 0 ≤ y ∧ y < D 1 0) ∧ hasDev D x.toNat u)) hfl hz ) dX10_transferDevice_56 (by decide) rfl cw_RX10_462 okX10_passesAll rfl (Nat.le_of_ble_eq_true rfl) ⟨Nat.le_of_ble_eq_true rfl, Nat.le_of_ble_eq_true rfl, Nat.le_of_ble_eq_true rfl, Nat.le_of_ble_eq_true rfl⟩ ?_
          refine zy_cv [zi (zb (((0 ≤ x ∧ x < D 1 0) ∧ 0 ≤ y ∧ y < D 1 0) ∧ (¬ x = y) ∧ (((0 ≤ x ∧ x < D 1 0) ∧ 0 ≤ y ∧ y < D 1 0) ∧ hasDev D x.toNat u)))] (sX10_tried_f (A := (((0 ≤ x ∧ x < D 1 0) ∧ 0 ≤ y ∧ y < D 1 0) ∧ (¬ x = y) ∧ (((0 ≤ x ∧ x < D 1 0) ∧ 0 ≤ y ∧ y < D 1 0) ∧ hasDev D x.toNat u))) hfl (zOK_put hz (th3_r _ _ _)) (fun q => hw3 q.2.2.2)) dX10_transferDevice_59 (by decide) rfl cw_RX10_449 okX10_tried rfl (Nat.le_of_ble_eq_true rfl) ⟨Nat.le_of_ble_eq_true rfl, Nat.le_of_ble_eq_true rfl, Nat.le_of_ble_eq_true rfl, Nat.le_of_ble_eq_true rfl⟩ ?_
          refine zx_if_eq (tgt := 79) (by first | exact hz _ _ | assumption | exact zr_b _ | exact zcmp_r _ _ | (unfold zr at *; omega)) dX10_transferDevice_62 (by decide) (fun h62 => ?_) (fun h62 => ?_)
          · have h62 := zb_0.mp h62
            refine zx_iconst dX10_transferDevice_79 ?_
            refine zx_iret rfl rfl dX10_transferDevice_80 ?_
            rw [hQ]
            refine ⟨congrArg (fun z : Int => (Sum.inl (some (zi z)) : Option zV ⊕ String)) ?_, ?_⟩
            · rfl
            exact ⟨(zOK_put hz (th3_r _ _ _)), QP_th hR, (zput_s _ _ _ _).trans (th3_3 hw hw2 (fun q => hw3 q.2))⟩
          · have h62 := zb_n.mp h62
            exact absurd (by assumption : ((0 ≤ x ∧ x < D 1 0) ∧ 0 ≤ y ∧ y < D 1 0) ∧ (¬ x = y) ∧ (((0 ≤ x ∧ x < D 1 0) ∧ 0 ≤ y ∧ y < D 1 0) ∧ hasDev D x.toNat u)) (fun q => hw3 q.2.2.2)
        · have h39 := zb_n.mp h39
          refine zx_aloadN dX10_transferDevice_42 rfl rfl ?_
          refine zx_iloadN dX10_transferDevice_43 rfl rfl ?_
          refine zy_top (b := ((x.toNat : Nat) : Int)) (by omega) ?_
          refine zx_iloadN dX10_transferDevice_44 rfl rfl ?_
          refine zy_cv [zi ((x.toNat : Nat) : Int), zi u] (sX10_ownsDevice (D := D) (p := x.toNat) hfl hz (by first | assumption | omega) (by first | assumption | (refine Rel_put (by decide) ?_; assumption) | (refine Rel_put (by decide) (Rel_put (by decide) ?_); assumption) | (refine Rel_put (by decide) (Rel_put (by decide) (Rel_put (by decide) ?_)); assumption)) (by first | assumption | omega) (by first | exact hz _ _ | assumption | exact zr_b _ | exact zcmp_r _ _ | (unfold zr at *; omega))) dX10_transferDevice_45 (by decide) rfl cw_RX10_90 okX10_ownsDevice rfl (Nat.le_of_ble_eq_true rfl) ⟨Nat.le_of_ble_eq_true rfl, Nat.le_of_ble_eq_true rfl, Nat.le_of_ble_eq_true rfl, Nat.le_of_ble_eq_true rfl⟩ ?_
          refine zx_if_eq (tgt := 55) (by first | exact hz _ _ | assumption | exact zr_b _ | exact zcmp_r _ _ | (unfold zr at *; omega)) dX10_transferDevice_48 (by decide) (fun h48 => ?_) (fun h48 => ?_)
          · have h48 := zb_0.mp h48
            refine zx_iconst dX10_transferDevice_55 ?_
            refine zy_top (b := zb (((0 ≤ x ∧ x < D 1 0) ∧ 0 ≤ y ∧ y < D 1 0) ∧ hasDev D x.toNat u)) (by first | exact (zb_t (by exact ⟨by assumption, by assumption⟩)).symm | exact (zb_f (fun q => absurd q.1 (by assumption))).symm | exact (zb_f (fun q => absurd q.2 (by assumption))).symm) ?_
            refine zy_cv [zi (zb ((0 ≤ x ∧ x < D 1 0) ∧ 0 ≤ y ∧ y < D 1 0)), zi (zb (¬ x = y)), zi (zb (((0 ≤ x ∧ x < D 1 0) ∧ 0 ≤ y ∧ y < D 1 0) ∧ hasDev D x.toNat u))] (sX10_passesAll (A := ((0 ≤ x ∧ x < D 1 0) ∧ 0 ≤ y ∧ y < D 1 0)) (B := (¬ x = y)) (C := (((0 ≤ x ∧ x < D 1 0) ∧ 0 ≤ y ∧ y < D 1 0) ∧ hasDev D x.toNat u)) hfl hz ) dX10_transferDevice_56 (by decide) rfl cw_RX10_462 okX10_passesAll rfl (Nat.le_of_ble_eq_true rfl) ⟨Nat.le_of_ble_eq_true rfl, Nat.le_of_ble_eq_true rfl, Nat.le_of_ble_eq_true rfl, Nat.le_of_ble_eq_true rfl⟩ ?_
            refine zy_cv [zi (zb (((0 ≤ x ∧ x < D 1 0) ∧ 0 ≤ y ∧ y < D 1 0) ∧ (¬ x = y) ∧ (((0 ≤ x ∧ x < D 1 0) ∧ 0 ≤ y ∧ y < D 1 0) ∧ hasDev D x.toNat u)))] (sX10_tried_f (A := (((0 ≤ x ∧ x < D 1 0) ∧ 0 ≤ y ∧ y < D 1 0) ∧ (¬ x = y) ∧ (((0 ≤ x ∧ x < D 1 0) ∧ 0 ≤ y ∧ y < D 1 0) ∧ hasDev D x.toNat u))) hfl (zOK_put hz (th3_r _ _ _)) (fun q => hw3 q.2.2.2)) dX10_transferDevice_59 (by decide) rfl cw_RX10_449 okX10_tried rfl (Nat.le_of_ble_eq_true rfl) ⟨Nat.le_of_ble_eq_true rfl, Nat.le_of_ble_eq_true rfl, Nat.le_of_ble_eq_true rfl, Nat.le_of_ble_eq_true rfl⟩ ?_
            refine zx_if_eq (tgt := 79) (by first | exact hz _ _ | assumption | exact zr_b _ | exact zcmp_r _ _ | (unfold zr at *; omega)) dX10_transferDevice_62 (by decide) (fun h62 => ?_) (fun h62 => ?_)
            · have h62 := zb_0.mp h62
              refine zx_iconst dX10_transferDevice_79 ?_
              refine zx_iret rfl rfl dX10_transferDevice_80 ?_
              rw [hQ]
              refine ⟨congrArg (fun z : Int => (Sum.inl (some (zi z)) : Option zV ⊕ String)) ?_, ?_⟩
              · rfl
              exact ⟨(zOK_put hz (th3_r _ _ _)), QP_th hR, (zput_s _ _ _ _).trans (th3_3 hw hw2 (fun q => hw3 q.2))⟩
            · have h62 := zb_n.mp h62
              exact absurd (by assumption : ((0 ≤ x ∧ x < D 1 0) ∧ 0 ≤ y ∧ y < D 1 0) ∧ (¬ x = y) ∧ (((0 ≤ x ∧ x < D 1 0) ∧ 0 ≤ y ∧ y < D 1 0) ∧ hasDev D x.toNat u)) (fun q => hw3 q.2.2.2)
          · have h48 := zb_n.mp h48
            refine zx_iconst dX10_transferDevice_51 ?_
            refine zx_goto (tgt := 56) dX10_transferDevice_52 (by decide) ?_
            refine zy_top (b := zb (((0 ≤ x ∧ x < D 1 0) ∧ 0 ≤ y ∧ y < D 1 0) ∧ hasDev D x.toNat u)) (by first | exact (zb_t (by exact ⟨by assumption, by assumption⟩)).symm | exact (zb_f (fun q => absurd q.1 (by assumption))).symm | exact (zb_f (fun q => absurd q.2 (by assumption))).symm) ?_
            refine zy_cv [zi (zb ((0 ≤ x ∧ x < D 1 0) ∧ 0 ≤ y ∧ y < D 1 0)), zi (zb (¬ x = y)), zi (zb (((0 ≤ x ∧ x < D 1 0) ∧ 0 ≤ y ∧ y < D 1 0) ∧ hasDev D x.toNat u))] (sX10_passesAll (A := ((0 ≤ x ∧ x < D 1 0) ∧ 0 ≤ y ∧ y < D 1 0)) (B := (¬ x = y)) (C := (((0 ≤ x ∧ x < D 1 0) ∧ 0 ≤ y ∧ y < D 1 0) ∧ hasDev D x.toNat u)) hfl hz ) dX10_transferDevice_56 (by decide) rfl cw_RX10_462 okX10_passesAll rfl (Nat.le_of_ble_eq_true rfl) ⟨Nat.le_of_ble_eq_true rfl, Nat.le_of_ble_eq_true rfl, Nat.le_of_ble_eq_true rfl, Nat.le_of_ble_eq_true rfl⟩ ?_
            refine zy_cv [zi (zb (((0 ≤ x ∧ x < D 1 0) ∧ 0 ≤ y ∧ y < D 1 0) ∧ (¬ x = y) ∧ (((0 ≤ x ∧ x < D 1 0) ∧ 0 ≤ y ∧ y < D 1 0) ∧ hasDev D x.toNat u)))] (sX10_tried_f (A := (((0 ≤ x ∧ x < D 1 0) ∧ 0 ≤ y ∧ y < D 1 0) ∧ (¬ x = y) ∧ (((0 ≤ x ∧ x < D 1 0) ∧ 0 ≤ y ∧ y < D 1 0) ∧ hasDev D x.toNat u))) hfl (zOK_put hz (th3_r _ _ _)) (fun q => hw3 q.2.2.2)) dX10_transferDevice_59 (by decide) rfl cw_RX10_449 okX10_tried rfl (Nat.le_of_ble_eq_true rfl) ⟨Nat.le_of_ble_eq_true rfl, Nat.le_of_ble_eq_true rfl, Nat.le_of_ble_eq_true rfl, Nat.le_of_ble_eq_true rfl⟩ ?_
            refine zx_if_eq (tgt := 79) (by first | exact hz _ _ | assumption | exact zr_b _ | exact zcmp_r _ _ | (unfold zr at *; omega)) dX10_transferDevice_62 (by decide) (fun h62 => ?_) (fun h62 => ?_)
            · have h62 := zb_0.mp h62
              refine zx_iconst dX10_transferDevice_79 ?_
              refine zx_iret rfl rfl dX10_transferDevice_80 ?_
              rw [hQ]
              refine ⟨congrArg (fun z : Int => (Sum.inl (some (zi z)) : Option zV ⊕ String)) ?_, ?_⟩
              · rfl
              exact ⟨(zOK_put hz (th3_r _ _ _)), QP_th hR, (zput_s _ _ _ _).trans (th3_3 hw hw2 (fun q => hw3 q.2))⟩
            · have h62 := zb_n.mp h62
              exact absurd (by assumption : ((0 ≤ x ∧ x < D 1 0) ∧ 0 ≤ y ∧ y < D 1 0) ∧ (¬ x = y) ∧ (((0 ≤ x ∧ x < D 1 0) ∧ 0 ≤ y ∧ y < D 1 0) ∧ hasDev D x.toNat u)) (fun q => hw3 q.2.2.2)
    · have h13 := zb_n.mp h13
      refine zx_iconst dX10_transferDevice_16 ?_
      refine zx_goto (tgt := 21) dX10_transferDevice_17 (by decide) ?_
      refine zy_top (b := zb ((0 ≤ x ∧ x < D 1 0) ∧ 0 ≤ y ∧ y < D 1 0)) (by first | exact (zb_t (by exact ⟨by assumption, by assumption⟩)).symm | exact (zb_f (fun q => absurd q.1 (by assumption))).symm | exact (zb_f (fun q => absurd q.2 (by assumption))).symm) ?_
      refine zy_istore [zf 10 261, zi x, zi y, zi u, zi (zb ((0 ≤ x ∧ x < D 1 0) ∧ 0 ≤ y ∧ y < D 1 0))] dX10_transferDevice_21 (Nat.le_of_ble_eq_true rfl) (Nat.le_of_ble_eq_true rfl) rfl rfl ?_
      refine zx_aloadN dX10_transferDevice_23 rfl rfl ?_
      refine zx_aloadN dX10_transferDevice_24 rfl rfl ?_
      refine zx_iload dX10_transferDevice_25 rfl ?_
      refine zx_iloadN dX10_transferDevice_27 rfl rfl ?_
      refine zx_iloadN dX10_transferDevice_28 rfl rfl ?_
      refine zx_icmp_eq (tgt := 36) (by first | exact hz _ _ | assumption | exact zr_b _ | exact zcmp_r _ _ | (unfold zr at *; omega)) (by first | exact hz _ _ | assumption | exact zr_b _ | exact zcmp_r _ _ | (unfold zr at *; omega)) dX10_transferDevice_29 (by decide) (fun h29 => ?_) (fun h29 => ?_)
      · refine zx_iconst dX10_transferDevice_36 ?_
        refine zy_top (b := zb (¬ x = y)) (by first | exact (zb_t (by assumption)).symm | exact (zb_t (by omega)).symm | exact (zb_f (by omega)).symm | exact (zb_f (by assumption)).symm | exact (zb_f (fun q => q (by assumption))).symm) ?_
        refine zx_iload dX10_transferDevice_37 rfl ?_
        refine zx_if_eq (tgt := 55) (by first | exact hz _ _ | assumption | exact zr_b _ | exact zcmp_r _ _ | (unfold zr at *; omega)) dX10_transferDevice_39 (by decide) (fun h39 => ?_) (fun h39 => ?_)
        · have h39 := zb_0.mp h39
          refine zx_iconst dX10_transferDevice_55 ?_
          refine zy_top (b := zb (((0 ≤ x ∧ x < D 1 0) ∧ 0 ≤ y ∧ y < D 1 0) ∧ hasDev D x.toNat u)) (by first | exact (zb_t (by exact ⟨by assumption, by assumption⟩)).symm | exact (zb_f (fun q => absurd q.1 (by assumption))).symm | exact (zb_f (fun q => absurd q.2 (by assumption))).symm) ?_
          refine zy_cv [zi (zb ((0 ≤ x ∧ x < D 1 0) ∧ 0 ≤ y ∧ y < D 1 0)), zi (zb (¬ x = y)), zi (zb (((0 ≤ x ∧ x < D 1 0) ∧ 0 ≤ y ∧ y < D 1 0) ∧ hasDev D x.toNat u))] (sX10_passesAll (A := ((0 ≤ x ∧ x < D 1 0) ∧ 0 ≤ y ∧ y < D 1 0)) (B := (¬ x = y)) (C := (((0 ≤ x ∧ x < D 1 0) ∧ 0 ≤ y ∧ y < D 1 0) ∧ hasDev D x.toNat u)) hfl hz ) dX10_transferDevice_56 (by decide) rfl cw_RX10_462 okX10_passesAll rfl (Nat.le_of_ble_eq_true rfl) ⟨Nat.le_of_ble_eq_true rfl, Nat.le_of_ble_eq_true rfl, Nat.le_of_ble_eq_true rfl, Nat.le_of_ble_eq_true rfl⟩ ?_
          refine zy_cv [zi (zb (((0 ≤ x ∧ x < D 1 0) ∧ 0 ≤ y ∧ y < D 1 0) ∧ (¬ x = y) ∧ (((0 ≤ x ∧ x < D 1 0) ∧ 0 ≤ y ∧ y < D 1 0) ∧ hasDev D x.toNat u)))] (sX10_tried_f (A := (((0 ≤ x ∧ x < D 1 0) ∧ 0 ≤ y ∧ y < D 1 0) ∧ (¬ x = y) ∧ (((0 ≤ x ∧ x < D 1 0) ∧ 0 ≤ y ∧ y < D 1 0) ∧ hasDev D x.toNat u))) hfl (zOK_put hz (th3_r _ _ _)) (fun q => hw3 q.2.2.2)) dX10_transferDevice_59 (by decide) rfl cw_RX10_449 okX10_tried rfl (Nat.le_of_ble_eq_true rfl) ⟨Nat.le_of_ble_eq_true rfl, Nat.le_of_ble_eq_true rfl, Nat.le_of_ble_eq_true rfl, Nat.le_of_ble_eq_true rfl⟩ ?_
          refine zx_if_eq (tgt := 79) (by first | exact hz _ _ | assumption | exact zr_b _ | exact zcmp_r _ _ | (unfold zr at *; omega)) dX10_transferDevice_62 (by decide) (fun h62 => ?_) (fun h62 => ?_)
          · have h62 := zb_0.mp h62
            refine zx_iconst dX10_transferDevice_79 ?_
            refine zx_iret rfl rfl dX10_transferDevice_80 ?_
            rw [hQ]
            refine ⟨congrArg (fun z : Int => (Sum.inl (some (zi z)) : Option zV ⊕ String)) ?_, ?_⟩
            · rfl
            exact ⟨(zOK_put hz (th3_r _ _ _)), QP_th hR, (zput_s _ _ _ _).trans (th3_3 hw hw2 (fun q => hw3 q.2))⟩
          · have h62 := zb_n.mp h62
            exact absurd (by assumption : ((0 ≤ x ∧ x < D 1 0) ∧ 0 ≤ y ∧ y < D 1 0) ∧ (¬ x = y) ∧ (((0 ≤ x ∧ x < D 1 0) ∧ 0 ≤ y ∧ y < D 1 0) ∧ hasDev D x.toNat u)) (fun q => hw3 q.2.2.2)
        · have h39 := zb_n.mp h39
          refine zx_aloadN dX10_transferDevice_42 rfl rfl ?_
          refine zx_iloadN dX10_transferDevice_43 rfl rfl ?_
          refine zy_top (b := ((x.toNat : Nat) : Int)) (by omega) ?_
          refine zx_iloadN dX10_transferDevice_44 rfl rfl ?_
          refine zy_cv [zi ((x.toNat : Nat) : Int), zi u] (sX10_ownsDevice (D := D) (p := x.toNat) hfl hz (by first | assumption | omega) (by first | assumption | (refine Rel_put (by decide) ?_; assumption) | (refine Rel_put (by decide) (Rel_put (by decide) ?_); assumption) | (refine Rel_put (by decide) (Rel_put (by decide) (Rel_put (by decide) ?_)); assumption)) (by first | assumption | omega) (by first | exact hz _ _ | assumption | exact zr_b _ | exact zcmp_r _ _ | (unfold zr at *; omega))) dX10_transferDevice_45 (by decide) rfl cw_RX10_90 okX10_ownsDevice rfl (Nat.le_of_ble_eq_true rfl) ⟨Nat.le_of_ble_eq_true rfl, Nat.le_of_ble_eq_true rfl, Nat.le_of_ble_eq_true rfl, Nat.le_of_ble_eq_true rfl⟩ ?_
          refine zx_if_eq (tgt := 55) (by first | exact hz _ _ | assumption | exact zr_b _ | exact zcmp_r _ _ | (unfold zr at *; omega)) dX10_transferDevice_48 (by decide) (fun h48 => ?_) (fun h48 => ?_)
          · have h48 := zb_0.mp h48
            refine zx_iconst dX10_transferDevice_55 ?_
            refine zy_top (b := zb (((0 ≤ x ∧ x < D 1 0) ∧ 0 ≤ y ∧ y < D 1 0) ∧ hasDev D x.toNat u)) (by first | exact (zb_t (by exact ⟨by assumption, by assumption⟩)).symm | exact (zb_f (fun q => absurd q.1 (by assumption))).symm | exact (zb_f (fun q => absurd q.2 (by assumption))).symm) ?_
            refine zy_cv [zi (zb ((0 ≤ x ∧ x < D 1 0) ∧ 0 ≤ y ∧ y < D 1 0)), zi (zb (¬ x = y)), zi (zb (((0 ≤ x ∧ x < D 1 0) ∧ 0 ≤ y ∧ y < D 1 0) ∧ hasDev D x.toNat u))] (sX10_passesAll (A := ((0 ≤ x ∧ x < D 1 0) ∧ 0 ≤ y ∧ y < D 1 0)) (B := (¬ x = y)) (C := (((0 ≤ x ∧ x < D 1 0) ∧ 0 ≤ y ∧ y < D 1 0) ∧ hasDev D x.toNat u)) hfl hz ) dX10_transferDevice_56 (by decide) rfl cw_RX10_462 okX10_passesAll rfl (Nat.le_of_ble_eq_true rfl) ⟨Nat.le_of_ble_eq_true rfl, Nat.le_of_ble_eq_true rfl, Nat.le_of_ble_eq_true rfl, Nat.le_of_ble_eq_true rfl⟩ ?_
            refine zy_cv [zi (zb (((0 ≤ x ∧ x < D 1 0) ∧ 0 ≤ y ∧ y < D 1 0) ∧ (¬ x = y) ∧ (((0 ≤ x ∧ x < D 1 0) ∧ 0 ≤ y ∧ y < D 1 0) ∧ hasDev D x.toNat u)))] (sX10_tried_f (A := (((0 ≤ x ∧ x < D 1 0) ∧ 0 ≤ y ∧ y < D 1 0) ∧ (¬ x = y) ∧ (((0 ≤ x ∧ x < D 1 0) ∧ 0 ≤ y ∧ y < D 1 0) ∧ hasDev D x.toNat u))) hfl (zOK_put hz (th3_r _ _ _)) (fun q => hw3 q.2.2.2)) dX10_transferDevice_59 (by decide) rfl cw_RX10_449 okX10_tried rfl (Nat.le_of_ble_eq_true rfl) ⟨Nat.le_of_ble_eq_true rfl, Nat.le_of_ble_eq_true rfl, Nat.le_of_ble_eq_true rfl, Nat.le_of_ble_eq_true rfl⟩ ?_
            refine zx_if_eq (tgt := 79) (by first | exact hz _ _ | assumption | exact zr_b _ | exact zcmp_r _ _ | (unfold zr at *; omega)) dX10_transferDevice_62 (by decide) (fun h62 => ?_) (fun h62 => ?_)
            · have h62 := zb_0.mp h62
              refine zx_iconst dX10_transferDevice_79 ?_
              refine zx_iret rfl rfl dX10_transferDevice_80 ?_
              rw [hQ]
              refine ⟨congrArg (fun z : Int => (Sum.inl (some (zi z)) : Option zV ⊕ String)) ?_, ?_⟩
              · rfl
              exact ⟨(zOK_put hz (th3_r _ _ _)), QP_th hR, (zput_s _ _ _ _).trans (th3_3 hw hw2 (fun q => hw3 q.2))⟩
            · have h62 := zb_n.mp h62
              exact absurd (by assumption : ((0 ≤ x ∧ x < D 1 0) ∧ 0 ≤ y ∧ y < D 1 0) ∧ (¬ x = y) ∧ (((0 ≤ x ∧ x < D 1 0) ∧ 0 ≤ y ∧ y < D 1 0) ∧ hasDev D x.toNat u)) (fun q => hw3 q.2.2.2)
          · have h48 := zb_n.mp h48
            refine zx_iconst dX10_transferDevice_51 ?_
            refine zx_goto (tgt := 56) dX10_transferDevice_52 (by decide) ?_
            refine zy_top (b := zb (((0 ≤ x ∧ x < D 1 0) ∧ 0 ≤ y ∧ y < D 1 0) ∧ hasDev D x.toNat u)) (by first | exact (zb_t (by exact ⟨by assumption, by assumption⟩)).symm | exact (zb_f (fun q => absurd q.1 (by assumption))).symm | exact (zb_f (fun q => absurd q.2 (by assumption))).symm) ?_
            refine zy_cv [zi (zb ((0 ≤ x ∧ x < D 1 0) ∧ 0 ≤ y ∧ y < D 1 0)), zi (zb (¬ x = y)), zi (zb (((0 ≤ x ∧ x < D 1 0) ∧ 0 ≤ y ∧ y < D 1 0) ∧ hasDev D x.toNat u))] (sX10_passesAll (A := ((0 ≤ x ∧ x < D 1 0) ∧ 0 ≤ y ∧ y < D 1 0)) (B := (¬ x = y)) (C := (((0 ≤ x ∧ x < D 1 0) ∧ 0 ≤ y ∧ y < D 1 0) ∧ hasDev D x.toNat u)) hfl hz ) dX10_transferDevice_56 (by decide) rfl cw_RX10_462 okX10_passesAll rfl (Nat.le_of_ble_eq_true rfl) ⟨Nat.le_of_ble_eq_true rfl, Nat.le_of_ble_eq_true rfl, Nat.le_of_ble_eq_true rfl, Nat.le_of_ble_eq_true rfl⟩ ?_
            refine zy_cv [zi (zb (((0 ≤ x ∧ x < D 1 0) ∧ 0 ≤ y ∧ y < D 1 0) ∧ (¬ x = y) ∧ (((0 ≤ x ∧ x < D 1 0) ∧ 0 ≤ y ∧ y < D 1 0) ∧ hasDev D x.toNat u)))] (sX10_tried_f (A := (((0 ≤ x ∧ x < D 1 0) ∧ 0 ≤ y ∧ y < D 1 0) ∧ (¬ x = y) ∧ (((0 ≤ x ∧ x < D 1 0) ∧ 0 ≤ y ∧ y < D 1 0) ∧ hasDev D x.toNat u))) hfl (zOK_put hz (th3_r _ _ _)) (fun q => hw3 q.2.2.2)) dX10_transferDevice_59 (by decide) rfl cw_RX10_449 okX10_tried rfl (Nat.le_of_ble_eq_true rfl) ⟨Nat.le_of_ble_eq_true rfl, Nat.le_of_ble_eq_true rfl, Nat.le_of_ble_eq_true rfl, Nat.le_of_ble_eq_true rfl⟩ ?_
            refine zx_if_eq (tgt := 79) (by first | exact hz _ _ | assumption | exact zr_b _ | exact zcmp_r _ _ | (unfold zr at *; omega)) dX10_transferDevice_62 (by decide) (fun h62 => ?_) (fun h62 => ?_)
            · have h62 := zb_0.mp h62
              refine zx_iconst dX10_transferDevice_79 ?_
              refine zx_iret rfl rfl dX10_transferDevice_80 ?_
              rw [hQ]
              refine ⟨congrArg (fun z : Int => (Sum.inl (some (zi z)) : Option zV ⊕ String)) ?_, ?_⟩
              · rfl
              exact ⟨(zOK_put hz (th3_r _ _ _)), QP_th hR, (zput_s _ _ _ _).trans (th3_3 hw hw2 (fun q => hw3 q.2))⟩
            · have h62 := zb_n.mp h62
              exact absurd (by assumption : ((0 ≤ x ∧ x < D 1 0) ∧ 0 ≤ y ∧ y < D 1 0) ∧ (¬ x = y) ∧ (((0 ≤ x ∧ x < D 1 0) ∧ 0 ≤ y ∧ y < D 1 0) ∧ hasDev D x.toNat u)) (fun q => hw3 q.2.2.2)
      · refine zx_iconst dX10_transferDevice_32 ?_
        refine zx_goto (tgt := 37) dX10_transferDevice_33 (by decide) ?_
        refine zy_top (b := zb (¬ x = y)) (by first | exact (zb_t (by assumption)).symm | exact (zb_t (by omega)).symm | exact (zb_f (by omega)).symm | exact (zb_f (by assumption)).symm | exact (zb_f (fun q => q (by assumption))).symm) ?_
        refine zx_iload dX10_transferDevice_37 rfl ?_
        refine zx_if_eq (tgt := 55) (by first | exact hz _ _ | assumption | exact zr_b _ | exact zcmp_r _ _ | (unfold zr at *; omega)) dX10_transferDevice_39 (by decide) (fun h39 => ?_) (fun h39 => ?_)
        · have h39 := zb_0.mp h39
          refine zx_iconst dX10_transferDevice_55 ?_
          refine zy_top (b := zb (((0 ≤ x ∧ x < D 1 0) ∧ 0 ≤ y ∧ y < D 1 0) ∧ hasDev D x.toNat u)) (by first | exact (zb_t (by exact ⟨by assumption, by assumption⟩)).symm | exact (zb_f (fun q => absurd q.1 (by assumption))).symm | exact (zb_f (fun q => absurd q.2 (by assumption))).symm) ?_
          refine zy_cv [zi (zb ((0 ≤ x ∧ x < D 1 0) ∧ 0 ≤ y ∧ y < D 1 0)), zi (zb (¬ x = y)), zi (zb (((0 ≤ x ∧ x < D 1 0) ∧ 0 ≤ y ∧ y < D 1 0) ∧ hasDev D x.toNat u))] (sX10_passesAll (A := ((0 ≤ x ∧ x < D 1 0) ∧ 0 ≤ y ∧ y < D 1 0)) (B := (¬ x = y)) (C := (((0 ≤ x ∧ x < D 1 0) ∧ 0 ≤ y ∧ y < D 1 0) ∧ hasDev D x.toNat u)) hfl hz ) dX10_transferDevice_56 (by decide) rfl cw_RX10_462 okX10_passesAll rfl (Nat.le_of_ble_eq_true rfl) ⟨Nat.le_of_ble_eq_true rfl, Nat.le_of_ble_eq_true rfl, Nat.le_of_ble_eq_true rfl, Nat.le_of_ble_eq_true rfl⟩ ?_
          refine zy_cv [zi (zb (((0 ≤ x ∧ x < D 1 0) ∧ 0 ≤ y ∧ y < D 1 0) ∧ (¬ x = y) ∧ (((0 ≤ x ∧ x < D 1 0) ∧ 0 ≤ y ∧ y < D 1 0) ∧ hasDev D x.toNat u)))] (sX10_tried_f (A := (((0 ≤ x ∧ x < D 1 0) ∧ 0 ≤ y ∧ y < D 1 0) ∧ (¬ x = y) ∧ (((0 ≤ x ∧ x < D 1 0) ∧ 0 ≤ y ∧ y < D 1 0) ∧ hasDev D x.toNat u))) hfl (zOK_put hz (th3_r _ _ _)) (fun q => hw3 q.2.2.2)) dX10_transferDevice_59 (by decide) rfl cw_RX10_449 okX10_tried rfl (Nat.le_of_ble_eq_true rfl) ⟨Nat.le_of_ble_eq_true rfl, Nat.le_of_ble_eq_true rfl, Nat.le_of_ble_eq_true rfl, Nat.le_of_ble_eq_true rfl⟩ ?_
          refine zx_if_eq (tgt := 79) (by first | exact hz _ _ | assumption | exact zr_b _ | exact zcmp_r _ _ | (unfold zr at *; omega)) dX10_transferDevice_62 (by decide) (fun h62 => ?_) (fun h62 => ?_)
          · have h62 := zb_0.mp h62
            refine zx_iconst dX10_transferDevice_79 ?_
            refine zx_iret rfl rfl dX10_transferDevice_80 ?_
            rw [hQ]
            refine ⟨congrArg (fun z : Int => (Sum.inl (some (zi z)) : Option zV ⊕ String)) ?_, ?_⟩
            · rfl
            exact ⟨(zOK_put hz (th3_r _ _ _)), QP_th hR, (zput_s _ _ _ _).trans (th3_3 hw hw2 (fun q => hw3 q.2))⟩
          · have h62 := zb_n.mp h62
            exact absurd (by assumption : ((0 ≤ x ∧ x < D 1 0) ∧ 0 ≤ y ∧ y < D 1 0) ∧ (¬ x = y) ∧ (((0 ≤ x ∧ x < D 1 0) ∧ 0 ≤ y ∧ y < D 1 0) ∧ hasDev D x.toNat u)) (fun q => hw3 q.2.2.2)
        · have h39 := zb_n.mp h39
          refine zx_aloadN dX10_transferDevice_42 rfl rfl ?_
          refine zx_iloadN dX10_transferDevice_43 rfl rfl ?_
          refine zy_top (b := ((x.toNat : Nat) : Int)) (by omega) ?_
          refine zx_iloadN dX10_transferDevice_44 rfl rfl ?_
          refine zy_cv [zi ((x.toNat : Nat) : Int), zi u] (sX10_ownsDevice (D := D) (p := x.toNat) hfl hz (by first | assumption | omega) (by first | assumption | (refine Rel_put (by decide) ?_; assumption) | (refine Rel_put (by decide) (Rel_put (by decide) ?_); assumption) | (refine Rel_put (by decide) (Rel_put (by decide) (Rel_put (by decide) ?_)); assumption)) (by first | assumption | omega) (by first | exact hz _ _ | assumption | exact zr_b _ | exact zcmp_r _ _ | (unfold zr at *; omega))) dX10_transferDevice_45 (by decide) rfl cw_RX10_90 okX10_ownsDevice rfl (Nat.le_of_ble_eq_true rfl) ⟨Nat.le_of_ble_eq_true rfl, Nat.le_of_ble_eq_true rfl, Nat.le_of_ble_eq_true rfl, Nat.le_of_ble_eq_true rfl⟩ ?_
          refine zx_if_eq (tgt := 55) (by first | exact hz _ _ | assumption | exact zr_b _ | exact zcmp_r _ _ | (unfold zr at *; omega)) dX10_transferDevice_48 (by decide) (fun h48 => ?_) (fun h48 => ?_)
          · have h48 := zb_0.mp h48
            refine zx_iconst dX10_transferDevice_55 ?_
            refine zy_top (b := zb (((0 ≤ x ∧ x < D 1 0) ∧ 0 ≤ y ∧ y < D 1 0) ∧ hasDev D x.toNat u)) (by first | exact (zb_t (by exact ⟨by assumption, by assumption⟩)).symm | exact (zb_f (fun q => absurd q.1 (by assumption))).symm | exact (zb_f (fun q => absurd q.2 (by assumption))).symm) ?_
            refine zy_cv [zi (zb ((0 ≤ x ∧ x < D 1 0) ∧ 0 ≤ y ∧ y < D 1 0)), zi (zb (¬ x = y)), zi (zb (((0 ≤ x ∧ x < D 1 0) ∧ 0 ≤ y ∧ y < D 1 0) ∧ hasDev D x.toNat u))] (sX10_passesAll (A := ((0 ≤ x ∧ x < D 1 0) ∧ 0 ≤ y ∧ y < D 1 0)) (B := (¬ x = y)) (C := (((0 ≤ x ∧ x < D 1 0) ∧ 0 ≤ y ∧ y < D 1 0) ∧ hasDev D x.toNat u)) hfl hz ) dX10_transferDevice_56 (by decide) rfl cw_RX10_462 okX10_passesAll rfl (Nat.le_of_ble_eq_true rfl) ⟨Nat.le_of_ble_eq_true rfl, Nat.le_of_ble_eq_true rfl, Nat.le_of_ble_eq_true rfl, Nat.le_of_ble_eq_true rfl⟩ ?_
            refine zy_cv [zi (zb (((0 ≤ x ∧ x < D 1 0) ∧ 0 ≤ y ∧ y < D 1 0) ∧ (¬ x = y) ∧ (((0 ≤ x ∧ x < D 1 0) ∧ 0 ≤ y ∧ y < D 1 0) ∧ hasDev D x.toNat u)))] (sX10_tried_f (A := (((0 ≤ x ∧ x < D 1 0) ∧ 0 ≤ y ∧ y < D 1 0) ∧ (¬ x = y) ∧ (((0 ≤ x ∧ x < D 1 0) ∧ 0 ≤ y ∧ y < D 1 0) ∧ hasDev D x.toNat u))) hfl (zOK_put hz (th3_r _ _ _)) (fun q => hw3 q.2.2.2)) dX10_transferDevice_59 (by decide) rfl cw_RX10_449 okX10_tried rfl (Nat.le_of_ble_eq_true rfl) ⟨Nat.le_of_ble_eq_true rfl, Nat.le_of_ble_eq_true rfl, Nat.le_of_ble_eq_true rfl, Nat.le_of_ble_eq_true rfl⟩ ?_
            refine zx_if_eq (tgt := 79) (by first | exact hz _ _ | assumption | exact zr_b _ | exact zcmp_r _ _ | (unfold zr at *; omega)) dX10_transferDevice_62 (by decide) (fun h62 => ?_) (fun h62 => ?_)
            · have h62 := zb_0.mp h62
              refine zx_iconst dX10_transferDevice_79 ?_
              refine zx_iret rfl rfl dX10_transferDevice_80 ?_
              rw [hQ]
              refine ⟨congrArg (fun z : Int => (Sum.inl (some (zi z)) : Option zV ⊕ String)) ?_, ?_⟩
              · rfl
              exact ⟨(zOK_put hz (th3_r _ _ _)), QP_th hR, (zput_s _ _ _ _).trans (th3_3 hw hw2 (fun q => hw3 q.2))⟩
            · have h62 := zb_n.mp h62
              exact absurd (by assumption : ((0 ≤ x ∧ x < D 1 0) ∧ 0 ≤ y ∧ y < D 1 0) ∧ (¬ x = y) ∧ (((0 ≤ x ∧ x < D 1 0) ∧ 0 ≤ y ∧ y < D 1 0) ∧ hasDev D x.toNat u)) (fun q => hw3 q.2.2.2)
          · have h48 := zb_n.mp h48
            refine zx_iconst dX10_transferDevice_51 ?_
            refine zx_goto (tgt := 56) dX10_transferDevice_52 (by decide) ?_
            refine zy_top (b := zb (((0 ≤ x ∧ x < D 1 0) ∧ 0 ≤ y ∧ y < D 1 0) ∧ hasDev D x.toNat u)) (by first | exact (zb_t (by exact ⟨by assumption, by assumption⟩)).symm | exact (zb_f (fun q => absurd q.1 (by assumption))).symm | exact (zb_f (fun q => absurd q.2 (by assumption))).symm) ?_
            refine zy_cv [zi (zb ((0 ≤ x ∧ x < D 1 0) ∧ 0 ≤ y ∧ y < D 1 0)), zi (zb (¬ x = y)), zi (zb (((0 ≤ x ∧ x < D 1 0) ∧ 0 ≤ y ∧ y < D 1 0) ∧ hasDev D x.toNat u))] (sX10_passesAll (A := ((0 ≤ x ∧ x < D 1 0) ∧ 0 ≤ y ∧ y < D 1 0)) (B := (¬ x = y)) (C := (((0 ≤ x ∧ x < D 1 0) ∧ 0 ≤ y ∧ y < D 1 0) ∧ hasDev D x.toNat u)) hfl hz ) dX10_transferDevice_56 (by decide) rfl cw_RX10_462 okX10_passesAll rfl (Nat.le_of_ble_eq_true rfl) ⟨Nat.le_of_ble_eq_true rfl, Nat.le_of_ble_eq_true rfl, Nat.le_of_ble_eq_true rfl, Nat.le_of_ble_eq_true rfl⟩ ?_
            refine zy_cv [zi (zb (((0 ≤ x ∧ x < D 1 0) ∧ 0 ≤ y ∧ y < D 1 0) ∧ (¬ x = y) ∧ (((0 ≤ x ∧ x < D 1 0) ∧ 0 ≤ y ∧ y < D 1 0) ∧ hasDev D x.toNat u)))] (sX10_tried_f (A := (((0 ≤ x ∧ x < D 1 0) ∧ 0 ≤ y ∧ y < D 1 0) ∧ (¬ x = y) ∧ (((0 ≤ x ∧ x < D 1 0) ∧ 0 ≤ y ∧ y < D 1 0) ∧ hasDev D x.toNat u))) hfl (zOK_put hz (th3_r _ _ _)) (fun q => hw3 q.2.2.2)) dX10_transferDevice_59 (by decide) rfl cw_RX10_449 okX10_tried rfl (Nat.le_of_ble_eq_true rfl) ⟨Nat.le_of_ble_eq_true rfl, Nat.le_of_ble_eq_true rfl, Nat.le_of_ble_eq_true rfl, Nat.le_of_ble_eq_true rfl⟩ ?_
            refine zx_if_eq (tgt := 79) (by first | exact hz _ _ | assumption | exact zr_b _ | exact zcmp_r _ _ | (unfold zr at *; omega)) dX10_transferDevice_62 (by decide) (fun h62 => ?_) (fun h62 => ?_)
            · have h62 := zb_0.mp h62
              refine zx_iconst dX10_transferDevice_79 ?_
              refine zx_iret rfl rfl dX10_transferDevice_80 ?_
              rw [hQ]
              refine ⟨congrArg (fun z : Int => (Sum.inl (some (zi z)) : Option zV ⊕ String)) ?_, ?_⟩
              · rfl
              exact ⟨(zOK_put hz (th3_r _ _ _)), QP_th hR, (zput_s _ _ _ _).trans (th3_3 hw hw2 (fun q => hw3 q.2))⟩
            · have h62 := zb_n.mp h62
              exact absurd (by assumption : ((0 ≤ x ∧ x < D 1 0) ∧ 0 ≤ y ∧ y < D 1 0) ∧ (¬ x = y) ∧ (((0 ≤ x ∧ x < D 1 0) ∧ 0 ≤ y ∧ y < D 1 0) ∧ hasDev D x.toNat u)) (fun q => hw3 q.2.2.2)
set_option maxRecDepth 20000 in
set_option maxHeartbeats 2000000 in
theorem sX10_transferDevice {l : Launch} {w : zW} (hfl : l.stackTraces = false) {σ : zS} {D : zBk} {x y u : Int} (hz : zOK σ) (hW : WF D) (hR : Rel D (σ.1 262)) (hx : zr x) (hy : zr y) (hu : zr u) (hm5 : 0 ≤ σ.1 261 5 ∧ σ.1 261 5 ≤ 8) (hw : (0 ≤ x ∧ x < D 1 0) ∧ 0 ≤ y ∧ y < D 1 0) (hw2 : ¬ x = y) (hw3 : hasDev D x.toNat u) : Sp l w mX10_transferDevice 5 0 [zf 10 261, zi x, zi y, zi u] σ (zqv (some (zi (zs (fun p => zb (hasDev (lnB D x.toNat y.toNat u) p u)) (D 1 0).toNat))) (fun τ => zOK τ ∧ mfr σ τ mA mF ∧ Rel (lnB D x.toNat y.toNat u) (τ.1 262) ∧ MPu σ τ (σ.1 262) ∧ τ.1 261 6 = 0)) := by
  obtain ⟨Q, hQ⟩ : ∃ Q : zQ, Q = (zqv (some (zi (zs (fun p => zb (hasDev (lnB D x.toNat y.toNat u) p u)) (D 1 0).toNat))) (fun τ => zOK τ ∧ mfr σ τ mA mF ∧ Rel (lnB D x.toNat y.toNat u) (τ.1 262) ∧ MPu σ τ (σ.1 262) ∧ τ.1 261 6 = 0)) := ⟨_, rfl⟩
  rw [← hQ]
  refine zx_enter hfl (by decide) rfl 1 rfl ?_
  show zX l w mX10_transferDevice (zMQ w 5 0 Q) 0 [zf 10 261, zi x, zi y, zi u, zu] [] 0 σ
  have hP : 0 ≤ D 1 0 ∧ D 1 0 ≤ 8 := hW.1.1
  have hM : 0 ≤ D 1 7 ∧ D 1 7 ≤ 8 := hW.1.2.1
  have hE : 0 ≤ D 1 10 ∧ D 1 10 ≤ 12 := hW.1.2.2.1
  have hK : 0 ≤ D 12 0 ∧ D 12 0 ≤ 40 := hW.1.2.2.2
  have r0 : σ.1 262 0 = D 1 0 := hR.1.1
  have r1 : σ.1 262 1 = D 1 7 := hR.1.2.1
  have r2 : σ.1 262 2 = D 1 10 := hR.1.2.2.1
  have r3 : σ.1 262 3 = D 12 0 := hR.1.2.2.2
  refine zx_aloadN dX10_transferDevice_0 rfl rfl ?_
  refine zx_iloadN dX10_transferDevice_1 rfl rfl ?_
  refine zy_cv [zi x] (sX10_isPrinter (D := D) hfl hz (by first | assumption | omega) (by first | assumption | (refine Rel_put (by decide) ?_; assumption) | (refine Rel_put (by decide) (Rel_put (by decide) ?_); assumption) | (refine Rel_put (by decide) (Rel_put (by decide) (Rel_put (by decide) ?_)); assumption)) (by first | exact hz _ _ | assumption | exact zr_b _ | exact zcmp_r _ _ | (unfold zr at *; omega))) dX10_transferDevice_2 (by decide) rfl cw_RX10_400 okX10_isPrinter rfl (Nat.le_of_ble_eq_true rfl) ⟨Nat.le_of_ble_eq_true rfl, Nat.le_of_ble_eq_true rfl, Nat.le_of_ble_eq_true rfl, Nat.le_of_ble_eq_true rfl⟩ ?_
  refine zx_if_eq (tgt := 20) (by first | exact hz _ _ | assumption | exact zr_b _ | exact zcmp_r _ _ | (unfold zr at *; omega)) dX10_transferDevice_5 (by decide) (fun h5 => ?_) (fun h5 => ?_)
  · have h5 := zb_0.mp h5
    refine zx_iconst dX10_transferDevice_20 ?_
    refine zy_top (b := zb ((0 ≤ x ∧ x < D 1 0) ∧ 0 ≤ y ∧ y < D 1 0)) (by first | exact (zb_t (by exact ⟨by assumption, by assumption⟩)).symm | exact (zb_f (fun q => absurd q.1 (by assumption))).symm | exact (zb_f (fun q => absurd q.2 (by assumption))).symm) ?_
    refine zy_istore [zf 10 261, zi x, zi y, zi u, zi (zb ((0 ≤ x ∧ x < D 1 0) ∧ 0 ≤ y ∧ y < D 1 0))] dX10_transferDevice_21 (Nat.le_of_ble_eq_true rfl) (Nat.le_of_ble_eq_true rfl) rfl rfl ?_
    refine zx_aloadN dX10_transferDevice_23 rfl rfl ?_
    refine zx_aloadN dX10_transferDevice_24 rfl rfl ?_
    refine zx_iload dX10_transferDevice_25 rfl ?_
    refine zx_iloadN dX10_transferDevice_27 rfl rfl ?_
    refine zx_iloadN dX10_transferDevice_28 rfl rfl ?_
    refine zx_icmp_eq (tgt := 36) (by first | exact hz _ _ | assumption | exact zr_b _ | exact zcmp_r _ _ | (unfold zr at *; omega)) (by first | exact hz _ _ | assumption | exact zr_b _ | exact zcmp_r _ _ | (unfold zr at *; omega)) dX10_transferDevice_29 (by decide) (fun h29 => ?_) (fun h29 => ?_)
    · refine zx_iconst dX10_transferDevice_36 ?_
      refine zy_top (b := zb (¬ x = y)) (by first | exact (zb_t (by assumption)).symm | exact (zb_t (by omega)).symm | exact (zb_f (by omega)).symm | exact (zb_f (by assumption)).symm | exact (zb_f (fun q => q (by assumption))).symm) ?_
      refine zx_iload dX10_transferDevice_37 rfl ?_
      refine zx_if_eq (tgt := 55) (by first | exact hz _ _ | assumption | exact zr_b _ | exact zcmp_r _ _ | (unfold zr at *; omega)) dX10_transferDevice_39 (by decide) (fun h39 => ?_) (fun h39 => ?_)
      · have h39 := zb_0.mp h39
        refine zx_iconst dX10_transferDevice_55 ?_
        refine zy_top (b := zb (((0 ≤ x ∧ x < D 1 0) ∧ 0 ≤ y ∧ y < D 1 0) ∧ hasDev D x.toNat u)) (by first | exact (zb_t (by exact ⟨by assumption, by assumption⟩)).symm | exact (zb_f (fun q => absurd q.1 (by assumption))).symm | exact (zb_f (fun q => absurd q.2 (by assumption))).symm) ?_
        refine zy_cv [zi (zb ((0 ≤ x ∧ x < D 1 0) ∧ 0 ≤ y ∧ y < D 1 0)), zi (zb (¬ x = y)), zi (zb (((0 ≤ x ∧ x < D 1 0) ∧ 0 ≤ y ∧ y < D 1 0) ∧ hasDev D x.toNat u))] (sX10_passesAll (A := ((0 ≤ x ∧ x < D 1 0) ∧ 0 ≤ y ∧ y < D 1 0)) (B := (¬ x = y)) (C := (((0 ≤ x ∧ x < D 1 0) ∧ 0 ≤ y ∧ y < D 1 0) ∧ hasDev D x.toNat u)) hfl hz ) dX10_transferDevice_56 (by decide) rfl cw_RX10_462 okX10_passesAll rfl (Nat.le_of_ble_eq_true rfl) ⟨Nat.le_of_ble_eq_true rfl, Nat.le_of_ble_eq_true rfl, Nat.le_of_ble_eq_true rfl, Nat.le_of_ble_eq_true rfl⟩ ?_
        refine zy_cvR [zi (zb (((0 ≤ x ∧ x < D 1 0) ∧ 0 ≤ y ∧ y < D 1 0) ∧ (¬ x = y) ∧ (((0 ≤ x ∧ x < D 1 0) ∧ 0 ≤ y ∧ y < D 1 0) ∧ hasDev D x.toNat u)))] (sX10_tried (A := (((0 ≤ x ∧ x < D 1 0) ∧ 0 ≤ y ∧ y < D 1 0) ∧ (¬ x = y) ∧ (((0 ≤ x ∧ x < D 1 0) ∧ 0 ≤ y ∧ y < D 1 0) ∧ hasDev D x.toNat u))) hfl (zOK_put hz (th3_r _ _ _)) (⟨hw, hw2, hw, hw3⟩ : ((0 ≤ x ∧ x < D 1 0) ∧ 0 ≤ y ∧ y < D 1 0) ∧ (¬ x = y) ∧ (((0 ≤ x ∧ x < D 1 0) ∧ 0 ≤ y ∧ y < D 1 0) ∧ hasDev D x.toNat u))) dX10_transferDevice_59 (by decide) rfl cw_RX10_449 okX10_tried rfl (Nat.le_of_ble_eq_true rfl) ⟨Nat.le_of_ble_eq_true rfl, Nat.le_of_ble_eq_true rfl, Nat.le_of_ble_eq_true rfl, Nat.le_of_ble_eq_true rfl⟩ (fun τ59 hr59 => ?_)
        have hz59 : zOK τ59 := hr59.1
        have hRt : Rel D (τ59.1 262) := mfr_R (mfr_cpo hr59.2 (by decide)) (by decide) (Rel_put (by decide) hR)
        have h5t : 0 ≤ τ59.1 261 5 ∧ τ59.1 261 5 ≤ 8 := by rw [hr59.2.1 261 (by decide), zput_i _ _ _ _ _ (by decide)]; exact hm5
        refine zx_if_eq (tgt := 79) (by first | exact hz59 _ _ | assumption | exact zr_b _ | exact zcmp_r _ _ | (unfold zr at *; omega)) dX10_transferDevice_62 (by decide) (fun h62 => ?_) (fun h62 => ?_)
        · have h62 := zb_0.mp h62
          exact absurd (⟨hw, hw2, hw, hw3⟩ : ((0 ≤ x ∧ x < D 1 0) ∧ 0 ≤ y ∧ y < D 1 0) ∧ (¬ x = y) ∧ (((0 ≤ x ∧ x < D 1 0) ∧ 0 ≤ y ∧ y < D 1 0) ∧ hasDev D x.toNat u)) (by assumption)
        · have h62 := zb_n.mp h62
          refine zx_aloadN dX10_transferDevice_65 rfl rfl ?_
          refine zx_aloadN dX10_transferDevice_66 rfl rfl ?_
          refine zx_iloadN dX10_transferDevice_67 rfl rfl ?_
          refine zx_iloadN dX10_transferDevice_68 rfl rfl ?_
          refine zx_iloadN dX10_transferDevice_69 rfl rfl ?_
          refine zy_cvR [zi x, zi y, zi u] (sX10_lendNow (D := D) hfl hz59 (by first | assumption | omega) hRt (by first | exact hz59 _ _ | assumption | exact zr_b _ | exact zcmp_r _ _ | (unfold zr at *; omega)) (by first | exact hz59 _ _ | assumption | exact zr_b _ | exact zcmp_r _ _ | (unfold zr at *; omega)) (by first | exact hz59 _ _ | assumption | exact zr_b _ | exact zcmp_r _ _ | (unfold zr at *; omega)) hw ⟨hw2, hw3⟩) dX10_transferDevice_70 (by decide) rfl cw_RX10_384 okX10_lendNow rfl (Nat.le_of_ble_eq_true rfl) ⟨Nat.le_of_ble_eq_true rfl, Nat.le_of_ble_eq_true rfl, Nat.le_of_ble_eq_true rfl, Nat.le_of_ble_eq_true rfl⟩ (fun τ70 hr70 => ?_)
          have hz70 : zOK τ70 := hr70.1
          have h5n : 0 ≤ τ70.1 261 5 ∧ τ70.1 261 5 ≤ 8 := by rw [hr70.2.1.2.1 5 (by omega)]; exact h5t
          refine zy_cvR [zi (zb True)] (sX10_done (A := True) hfl hz70 h5n) dX10_transferDevice_73 (by decide) rfl cw_RX10_452 okX10_done rfl (Nat.le_of_ble_eq_true rfl) ⟨Nat.le_of_ble_eq_true rfl, Nat.le_of_ble_eq_true rfl, Nat.le_of_ble_eq_true rfl, Nat.le_of_ble_eq_true rfl⟩ (fun τ73 hr73 => ?_)
          have hz73 : zOK τ73 := hr73.1
          refine zx_goto (tgt := 80) dX10_transferDevice_76 (by decide) ?_
          refine zx_iret rfl rfl dX10_transferDevice_80 ?_
          rw [hQ]
          refine ⟨congrArg (fun z : Int => (Sum.inl (some (zi z)) : Option zV ⊕ String)) ?_, ?_⟩
          · exact hr70.2.2.2
          have ht : mfr (zput σ 261 6 (th3 ((0 ≤ x ∧ x < D 1 0) ∧ 0 ≤ y ∧ y < D 1 0) (¬ x = y) (((0 ≤ x ∧ x < D 1 0) ∧ 0 ≤ y ∧ y < D 1 0) ∧ hasDev D x.toNat u))) τ59 (fun k => k = 264) (fun _ => False) := mfr_cpo hr59.2 (by decide)
          have mB : mfr σ (zput σ 261 6 (th3 ((0 ≤ x ∧ x < D 1 0) ∧ 0 ≤ y ∧ y < D 1 0) (¬ x = y) (((0 ≤ x ∧ x < D 1 0) ∧ 0 ≤ y ∧ y < D 1 0) ∧ hasDev D x.toNat u))) (fun _ => False) (fun i => i = 6) := mfr_mo (mfr_put261 (mfr_rf σ (fun _ => False) (fun _ => False))) (fun k q => q) (fun i q => by rcases q with q | q; exact absurd q id; exact q)
          have m1 : mfr σ τ59 mA mF := mfr_tr mB ht (fun k q => by rcases q with q | q; exact absurd q id; exact Or.inr (Or.inl q)) (fun i q => by rcases q with q | q; exact Or.inr (Or.inl q); exact absurd q id)
          have m2 : mfr σ τ70 mA mF := mfr_tr m1 hr70.2.1 (fun k q => by unfold mA at *; omega) (fun i q => by unfold mF at *; omega)
          have m3 : mfr σ τ73 mA mF := mfr_tr m2 hr73.2.1 (fun k q => by unfold mA at *; omega) (fun i q => by unfold mF at *; omega)
          have h264 : ∀ j, j < 380 → τ70.1 264 j = σ.1 262 j := fun j hj => by
            rw [hr70.2.1.1 264 (by omega) (by omega) j]
            have := hr59.2.2.2.1 j hj
            rw [Nat.zero_add] at this
            rw [this]; exact zput_k _ _ _ _ _ (by omega)
          have h266 : ∀ j, τ70.1 266 j = σ.1 266 j := fun j => by
            rw [hr70.2.1.1 266 (by omega) (by omega) j, ht.1 266 (by omega) (by omega) j]; exact zput_k _ _ _ _ _ (by omega)
          have h65 : τ70.1 261 5 = σ.1 261 5 := by
            rw [hr70.2.1.2.1 5 (by omega), ht.2.1 5 (fun q => q)]; exact zput_i _ _ _ _ _ (by omega)
          have h66 : τ73.1 261 6 = 0 := by
            rw [hr73.2.1.2.1 6 (by omega), hr70.2.1.2.1 6 (by omega), ht.2.1 6 (fun q => q)]; exact (zput_s _ _ _ _).trans (th3_0 hw hw2 ⟨hw, hw3⟩)
          exact ⟨hz73, m3, mfr_R hr73.2.1 (by omega) hr70.2.2.1, MPu_to hr73.2.2 h65 h266 h264, h66⟩
      · have h39 := zb_n.mp h39
        refine zx_aloadN dX10_transferDevice_42 rfl rfl ?_
        refine zx_iloadN dX10_transferDevice_43 rfl rfl ?_
        refine zy_top (b := ((x.toNat : Nat) : Int)) (by omega) ?_
        refine zx_iloadN dX10_transferDevice_44 rfl rfl ?_
        refine zy_cv [zi ((x.toNat : Nat) : Int), zi u] (sX10_ownsDevice (D := D) (p := x.toNat) hfl hz (by first | assumption | omega) (by first | assumption | (refine Rel_put (by decide) ?_; assumption) | (refine Rel_put (by decide) (Rel_put (by decide) ?_); assumption) | (refine Rel_put (by decide) (Rel_put (by decide) (Rel_put (by decide) ?_)); assumption)) (by first | assumption | omega) (by first | exact hz _ _ | assumption | exact zr_b _ | exact zcmp_r _ _ | (unfold zr at *; omega))) dX10_transferDevice_45 (by decide) rfl cw_RX10_90 okX10_ownsDevice rfl (Nat.le_of_ble_eq_true rfl) ⟨Nat.le_of_ble_eq_true rfl, Nat.le_of_ble_eq_true rfl, Nat.le_of_ble_eq_true rfl, Nat.le_of_ble_eq_true rfl⟩ ?_
        refine zx_if_eq (tgt := 55) (by first | exact hz _ _ | assumption | exact zr_b _ | exact zcmp_r _ _ | (unfold zr at *; omega)) dX10_transferDevice_48 (by decide) (fun h48 => ?_) (fun h48 => ?_)
        · have h48 := zb_0.mp h48
          refine zx_iconst dX10_transferDevice_55 ?_
          refine zy_top (b := zb (((0 ≤ x ∧ x < D 1 0) ∧ 0 ≤ y ∧ y < D 1 0) ∧ hasDev D x.toNat u)) (by first | exact (zb_t (by exact ⟨by assumption, by assumption⟩)).symm | exact (zb_f (fun q => absurd q.1 (by assumption))).symm | exact (zb_f (fun q => absurd q.2 (by assumption))).symm) ?_
          refine zy_cv [zi (zb ((0 ≤ x ∧ x < D 1 0) ∧ 0 ≤ y ∧ y < D 1 0)), zi (zb (¬ x = y)), zi (zb (((0 ≤ x ∧ x < D 1 0) ∧ 0 ≤ y ∧ y < D 1 0) ∧ hasDev D x.toNat u))] (sX10_passesAll (A := ((0 ≤ x ∧ x < D 1 0) ∧ 0 ≤ y ∧ y < D 1 0)) (B := (¬ x = y)) (C := (((0 ≤ x ∧ x < D 1 0) ∧ 0 ≤ y ∧ y < D 1 0) ∧ hasDev D x.toNat u)) hfl hz ) dX10_transferDevice_56 (by decide) rfl cw_RX10_462 okX10_passesAll rfl (Nat.le_of_ble_eq_true rfl) ⟨Nat.le_of_ble_eq_true rfl, Nat.le_of_ble_eq_true rfl, Nat.le_of_ble_eq_true rfl, Nat.le_of_ble_eq_true rfl⟩ ?_
          refine zy_cvR [zi (zb (((0 ≤ x ∧ x < D 1 0) ∧ 0 ≤ y ∧ y < D 1 0) ∧ (¬ x = y) ∧ (((0 ≤ x ∧ x < D 1 0) ∧ 0 ≤ y ∧ y < D 1 0) ∧ hasDev D x.toNat u)))] (sX10_tried (A := (((0 ≤ x ∧ x < D 1 0) ∧ 0 ≤ y ∧ y < D 1 0) ∧ (¬ x = y) ∧ (((0 ≤ x ∧ x < D 1 0) ∧ 0 ≤ y ∧ y < D 1 0) ∧ hasDev D x.toNat u))) hfl (zOK_put hz (th3_r _ _ _)) (⟨hw, hw2, hw, hw3⟩ : ((0 ≤ x ∧ x < D 1 0) ∧ 0 ≤ y ∧ y < D 1 0) ∧ (¬ x = y) ∧ (((0 ≤ x ∧ x < D 1 0) ∧ 0 ≤ y ∧ y < D 1 0) ∧ hasDev D x.toNat u))) dX10_transferDevice_59 (by decide) rfl cw_RX10_449 okX10_tried rfl (Nat.le_of_ble_eq_true rfl) ⟨Nat.le_of_ble_eq_true rfl, Nat.le_of_ble_eq_true rfl, Nat.le_of_ble_eq_true rfl, Nat.le_of_ble_eq_true rfl⟩ (fun τ59 hr59 => ?_)
          have hz59 : zOK τ59 := hr59.1
          have hRt : Rel D (τ59.1 262) := mfr_R (mfr_cpo hr59.2 (by decide)) (by decide) (Rel_put (by decide) hR)
          have h5t : 0 ≤ τ59.1 261 5 ∧ τ59.1 261 5 ≤ 8 := by rw [hr59.2.1 261 (by decide), zput_i _ _ _ _ _ (by decide)]; exact hm5
          refine zx_if_eq (tgt := 79) (by first | exact hz59 _ _ | assumption | exact zr_b _ | exact zcmp_r _ _ | (unfold zr at *; omega)) dX10_transferDevice_62 (by decide) (fun h62 => ?_) (fun h62 => ?_)
          · have h62 := zb_0.mp h62
            exact absurd (⟨hw, hw2, hw, hw3⟩ : ((0 ≤ x ∧ x < D 1 0) ∧ 0 ≤ y ∧ y < D 1 0) ∧ (¬ x = y) ∧ (((0 ≤ x ∧ x < D 1 0) ∧ 0 ≤ y ∧ y < D 1 0) ∧ hasDev D x.toNat u)) (by assumption)
          · have h62 := zb_n.mp h62
            refine zx_aloadN dX10_transferDevice_65 rfl rfl ?_
            refine zx_aloadN dX10_transferDevice_66 rfl rfl ?_
            refine zx_iloadN dX10_transferDevice_67 rfl rfl ?_
            refine zx_iloadN dX10_transferDevice_68 rfl rfl ?_
            refine zx_iloadN dX10_transferDevice_69 rfl rfl ?_
            refine zy_cvR [zi x, zi y, zi u] (sX10_lendNow (D := D) hfl hz59 (by first | assumption | omega) hRt (by first | exact hz59 _ _ | assumption | exact zr_b _ | exact zcmp_r _ _ | (unfold zr at *; omega)) (by first | exact hz59 _ _ | assumption | exact zr_b _ | exact zcmp_r _ _ | (unfold zr at *; omega)) (by first | exact hz59 _ _ | assumption | exact zr_b _ | exact zcmp_r _ _ | (unfold zr at *; omega)) hw ⟨hw2, hw3⟩) dX10_transferDevice_70 (by decide) rfl cw_RX10_384 okX10_lendNow rfl (Nat.le_of_ble_eq_true rfl) ⟨Nat.le_of_ble_eq_true rfl, Nat.le_of_ble_eq_true rfl, Nat.le_of_ble_eq_true rfl, Nat.le_of_ble_eq_true rfl⟩ (fun τ70 hr70 => ?_)
            have hz70 : zOK τ70 := hr70.1
            have h5n : 0 ≤ τ70.1 261 5 ∧ τ70.1 261 5 ≤ 8 := by rw [hr70.2.1.2.1 5 (by omega)]; exact h5t
            refine zy_cvR [zi (zb True)] (sX10_done (A := True) hfl hz70 h5n) dX10_transferDevice_73 (by decide) rfl cw_RX10_452 okX10_done rfl (Nat.le_of_ble_eq_true rfl) ⟨Nat.le_of_ble_eq_true rfl, Nat.le_of_ble_eq_true rfl, Nat.le_of_ble_eq_true rfl, Nat.le_of_ble_eq_true rfl⟩ (fun τ73 hr73 => ?_)
            have hz73 : zOK τ73 := hr73.1
            refine zx_goto (tgt := 80) dX10_transferDevice_76 (by decide) ?_
            refine zx_iret rfl rfl dX10_transferDevice_80 ?_
            rw [hQ]
            refine ⟨congrArg (fun z : Int => (Sum.inl (some (zi z)) : Option zV ⊕ String)) ?_, ?_⟩
            · exact hr70.2.2.2
            have ht : mfr (zput σ 261 6 (th3 ((0 ≤ x ∧ x < D 1 0) ∧ 0 ≤ y ∧ y < D 1 0) (¬ x = y) (((0 ≤ x ∧ x < D 1 0) ∧ 0 ≤ y ∧ y < D 1 0) ∧ hasDev D x.toNat u))) τ59 (fun k => k = 264) (fun _ => False) := mfr_cpo hr59.2 (by decide)
            have mB : mfr σ (zput σ 261 6 (th3 ((0 ≤ x ∧ x < D 1 0) ∧ 0 ≤ y ∧ y < D 1 0) (¬ x = y) (((0 ≤ x ∧ x < D 1 0) ∧ 0 ≤ y ∧ y < D 1 0) ∧ hasDev D x.toNat u))) (fun _ => False) (fun i => i = 6) := mfr_mo (mfr_put261 (mfr_rf σ (fun _ => False) (fun _ => False))) (fun k q => q) (fun i q => by rcases q with q | q; exact absurd q id; exact q)
            have m1 : mfr σ τ59 mA mF := mfr_tr mB ht (fun k q => by rcases q with q | q; exact absurd q id; exact Or.inr (Or.inl q)) (fun i q => by rcases q with q | q; exact Or.inr (Or.inl q); exact absurd q id)
            have m2 : mfr σ τ70 mA mF := mfr_tr m1 hr70.2.1 (fun k q => by unfold mA at *; omega) (fun i q => by unfold mF at *; omega)
            have m3 : mfr σ τ73 mA mF := mfr_tr m2 hr73.2.1 (fun k q => by unfold mA at *; omega) (fun i q => by unfold mF at *; omega)
            have h264 : ∀ j, j < 380 → τ70.1 264 j = σ.1 262 j := fun j hj => by
              rw [hr70.2.1.1 264 (by omega) (by omega) j]
              have := hr59.2.2.2.1 j hj
              rw [Nat.zero_add] at this
              rw [this]; exact zput_k _ _ _ _ _ (by omega)
            have h266 : ∀ j, τ70.1 266 j = σ.1 266 j := fun j => by
              rw [hr70.2.1.1 266 (by omega) (by omega) j, ht.1 266 (by omega) (by omega) j]; exact zput_k _ _ _ _ _ (by omega)
            have h65 : τ70.1 261 5 = σ.1 261 5 := by
              rw [hr70.2.1.2.1 5 (by omega), ht.2.1 5 (fun q => q)]; exact zput_i _ _ _ _ _ (by omega)
            have h66 : τ73.1 261 6 = 0 := by
              rw [hr73.2.1.2.1 6 (by omega), hr70.2.1.2.1 6 (by omega), ht.2.1 6 (fun q => q)]; exact (zput_s _ _ _ _).trans (th3_0 hw hw2 ⟨hw, hw3⟩)
            exact ⟨hz73, m3, mfr_R hr73.2.1 (by omega) hr70.2.2.1, MPu_to hr73.2.2 h65 h266 h264, h66⟩
        · have h48 := zb_n.mp h48
          refine zx_iconst dX10_transferDevice_51 ?_
          refine zx_goto (tgt := 56) dX10_transferDevice_52 (by decide) ?_
          refine zy_top (b := zb (((0 ≤ x ∧ x < D 1 0) ∧ 0 ≤ y ∧ y < D 1 0) ∧ hasDev D x.toNat u)) (by first | exact (zb_t (by exact ⟨by assumption, by assumption⟩)).symm | exact (zb_f (fun q => absurd q.1 (by assumption))).symm | exact (zb_f (fun q => absurd q.2 (by assumption))).symm) ?_
          refine zy_cv [zi (zb ((0 ≤ x ∧ x < D 1 0) ∧ 0 ≤ y ∧ y < D 1 0)), zi (zb (¬ x = y)), zi (zb (((0 ≤ x ∧ x < D 1 0) ∧ 0 ≤ y ∧ y < D 1 0) ∧ hasDev D x.toNat u))] (sX10_passesAll (A := ((0 ≤ x ∧ x < D 1 0) ∧ 0 ≤ y ∧ y < D 1 0)) (B := (¬ x = y)) (C := (((0 ≤ x ∧ x < D 1 0) ∧ 0 ≤ y ∧ y < D 1 0) ∧ hasDev D x.toNat u)) hfl hz ) dX10_transferDevice_56 (by decide) rfl cw_RX10_462 okX10_passesAll rfl (Nat.le_of_ble_eq_true rfl) ⟨Nat.le_of_ble_eq_true rfl, Nat.le_of_ble_eq_true rfl, Nat.le_of_ble_eq_true rfl, Nat.le_of_ble_eq_true rfl⟩ ?_
          refine zy_cvR [zi (zb (((0 ≤ x ∧ x < D 1 0) ∧ 0 ≤ y ∧ y < D 1 0) ∧ (¬ x = y) ∧ (((0 ≤ x ∧ x < D 1 0) ∧ 0 ≤ y ∧ y < D 1 0) ∧ hasDev D x.toNat u)))] (sX10_tried (A := (((0 ≤ x ∧ x < D 1 0) ∧ 0 ≤ y ∧ y < D 1 0) ∧ (¬ x = y) ∧ (((0 ≤ x ∧ x < D 1 0) ∧ 0 ≤ y ∧ y < D 1 0) ∧ hasDev D x.toNat u))) hfl (zOK_put hz (th3_r _ _ _)) (⟨hw, hw2, hw, hw3⟩ : ((0 ≤ x ∧ x < D 1 0) ∧ 0 ≤ y ∧ y < D 1 0) ∧ (¬ x = y) ∧ (((0 ≤ x ∧ x < D 1 0) ∧ 0 ≤ y ∧ y < D 1 0) ∧ hasDev D x.toNat u))) dX10_transferDevice_59 (by decide) rfl cw_RX10_449 okX10_tried rfl (Nat.le_of_ble_eq_true rfl) ⟨Nat.le_of_ble_eq_true rfl, Nat.le_of_ble_eq_true rfl, Nat.le_of_ble_eq_true rfl, Nat.le_of_ble_eq_true rfl⟩ (fun τ59 hr59 => ?_)
          have hz59 : zOK τ59 := hr59.1
          have hRt : Rel D (τ59.1 262) := mfr_R (mfr_cpo hr59.2 (by decide)) (by decide) (Rel_put (by decide) hR)
          have h5t : 0 ≤ τ59.1 261 5 ∧ τ59.1 261 5 ≤ 8 := by rw [hr59.2.1 261 (by decide), zput_i _ _ _ _ _ (by decide)]; exact hm5
          refine zx_if_eq (tgt := 79) (by first | exact hz59 _ _ | assumption | exact zr_b _ | exact zcmp_r _ _ | (unfold zr at *; omega)) dX10_transferDevice_62 (by decide) (fun h62 => ?_) (fun h62 => ?_)
          · have h62 := zb_0.mp h62
            exact absurd (⟨hw, hw2, hw, hw3⟩ : ((0 ≤ x ∧ x < D 1 0) ∧ 0 ≤ y ∧ y < D 1 0) ∧ (¬ x = y) ∧ (((0 ≤ x ∧ x < D 1 0) ∧ 0 ≤ y ∧ y < D 1 0) ∧ hasDev D x.toNat u)) (by assumption)
          · have h62 := zb_n.mp h62
            refine zx_aloadN dX10_transferDevice_65 rfl rfl ?_
            refine zx_aloadN dX10_transferDevice_66 rfl rfl ?_
            refine zx_iloadN dX10_transferDevice_67 rfl rfl ?_
            refine zx_iloadN dX10_transferDevice_68 rfl rfl ?_
            refine zx_iloadN dX10_transferDevice_69 rfl rfl ?_
            refine zy_cvR [zi x, zi y, zi u] (sX10_lendNow (D := D) hfl hz59 (by first | assumption | omega) hRt (by first | exact hz59 _ _ | assumption | exact zr_b _ | exact zcmp_r _ _ | (unfold zr at *; omega)) (by first | exact hz59 _ _ | assumption | exact zr_b _ | exact zcmp_r _ _ | (unfold zr at *; omega)) (by first | exact hz59 _ _ | assumption | exact zr_b _ | exact zcmp_r _ _ | (unfold zr at *; omega)) hw ⟨hw2, hw3⟩) dX10_transferDevice_70 (by decide) rfl cw_RX10_384 okX10_lendNow rfl (Nat.le_of_ble_eq_true rfl) ⟨Nat.le_of_ble_eq_true rfl, Nat.le_of_ble_eq_true rfl, Nat.le_of_ble_eq_true rfl, Nat.le_of_ble_eq_true rfl⟩ (fun τ70 hr70 => ?_)
            have hz70 : zOK τ70 := hr70.1
            have h5n : 0 ≤ τ70.1 261 5 ∧ τ70.1 261 5 ≤ 8 := by rw [hr70.2.1.2.1 5 (by omega)]; exact h5t
            refine zy_cvR [zi (zb True)] (sX10_done (A := True) hfl hz70 h5n) dX10_transferDevice_73 (by decide) rfl cw_RX10_452 okX10_done rfl (Nat.le_of_ble_eq_true rfl) ⟨Nat.le_of_ble_eq_true rfl, Nat.le_of_ble_eq_true rfl, Nat.le_of_ble_eq_true rfl, Nat.le_of_ble_eq_true rfl⟩ (fun τ73 hr73 => ?_)
            have hz73 : zOK τ73 := hr73.1
            refine zx_goto (tgt := 80) dX10_transferDevice_76 (by decide) ?_
            refine zx_iret rfl rfl dX10_transferDevice_80 ?_
            rw [hQ]
            refine ⟨congrArg (fun z : Int => (Sum.inl (some (zi z)) : Option zV ⊕ String)) ?_, ?_⟩
            · exact hr70.2.2.2
            have ht : mfr (zput σ 261 6 (th3 ((0 ≤ x ∧ x < D 1 0) ∧ 0 ≤ y ∧ y < D 1 0) (¬ x = y) (((0 ≤ x ∧ x < D 1 0) ∧ 0 ≤ y ∧ y < D 1 0) ∧ hasDev D x.toNat u))) τ59 (fun k => k = 264) (fun _ => False) := mfr_cpo hr59.2 (by decide)
            have mB : mfr σ (zput σ 261 6 (th3 ((0 ≤ x ∧ x < D 1 0) ∧ 0 ≤ y ∧ y < D 1 0) (¬ x = y) (((0 ≤ x ∧ x < D 1 0) ∧ 0 ≤ y ∧ y < D 1 0) ∧ hasDev D x.toNat u))) (fun _ => False) (fun i => i = 6) := mfr_mo (mfr_put261 (mfr_rf σ (fun _ => False) (fun _ => False))) (fun k q => q) (fun i q => by rcases q with q | q; exact absurd q id; exact q)
            have m1 : mfr σ τ59 mA mF := mfr_tr mB ht (fun k q => by rcases q with q | q; exact absurd q id; exact Or.inr (Or.inl q)) (fun i q => by rcases q with q | q; exact Or.inr (Or.inl q); exact absurd q id)
            have m2 : mfr σ τ70 mA mF := mfr_tr m1 hr70.2.1 (fun k q => by unfold mA at *; omega) (fun i q => by unfold mF at *; omega)
            have m3 : mfr σ τ73 mA mF := mfr_tr m2 hr73.2.1 (fun k q => by unfold mA at *; omega) (fun i q => by unfold mF at *; omega)
            have h264 : ∀ j, j < 380 → τ70.1 264 j = σ.1 262 j := fun j hj => by
              rw [hr70.2.1.1 264 (by omega) (by omega) j]
              have := hr59.2.2.2.1 j hj
              rw [Nat.zero_add] at this
              rw [this]; exact zput_k _ _ _ _ _ (by omega)
            have h266 : ∀ j, τ70.1 266 j = σ.1 266 j := fun j => by
              rw [hr70.2.1.1 266 (by omega) (by omega) j, ht.1 266 (by omega) (by omega) j]; exact zput_k _ _ _ _ _ (by omega)
            have h65 : τ70.1 261 5 = σ.1 261 5 := by
              rw [hr70.2.1.2.1 5 (by omega), ht.2.1 5 (fun q => q)]; exact zput_i _ _ _ _ _ (by omega)
            have h66 : τ73.1 261 6 = 0 := by
              rw [hr73.2.1.2.1 6 (by omega), hr70.2.1.2.1 6 (by omega), ht.2.1 6 (fun q => q)]; exact (zput_s _ _ _ _).trans (th3_0 hw hw2 ⟨hw, hw3⟩)
            exact ⟨hz73, m3, mfr_R hr73.2.1 (by omega) hr70.2.2.1, MPu_to hr73.2.2 h65 h266 h264, h66⟩
    · refine zx_iconst dX10_transferDevice_32 ?_
      refine zx_goto (tgt := 37) dX10_transferDevice_33 (by decide) ?_
      refine zy_top (b := zb (¬ x = y)) (by first | exact (zb_t (by assumption)).symm | exact (zb_t (by omega)).symm | exact (zb_f (by omega)).symm | exact (zb_f (by assumption)).symm | exact (zb_f (fun q => q (by assumption))).symm) ?_
      refine zx_iload dX10_transferDevice_37 rfl ?_
      refine zx_if_eq (tgt := 55) (by first | exact hz _ _ | assumption | exact zr_b _ | exact zcmp_r _ _ | (unfold zr at *; omega)) dX10_transferDevice_39 (by decide) (fun h39 => ?_) (fun h39 => ?_)
      · have h39 := zb_0.mp h39
        refine zx_iconst dX10_transferDevice_55 ?_
        refine zy_top (b := zb (((0 ≤ x ∧ x < D 1 0) ∧ 0 ≤ y ∧ y < D 1 0) ∧ hasDev D x.toNat u)) (by first | exact (zb_t (by exact ⟨by assumption, by assumption⟩)).symm | exact (zb_f (fun q => absurd q.1 (by assumption))).symm | exact (zb_f (fun q => absurd q.2 (by assumption))).symm) ?_
        refine zy_cv [zi (zb ((0 ≤ x ∧ x < D 1 0) ∧ 0 ≤ y ∧ y < D 1 0)), zi (zb (¬ x = y)), zi (zb (((0 ≤ x ∧ x < D 1 0) ∧ 0 ≤ y ∧ y < D 1 0) ∧ hasDev D x.toNat u))] (sX10_passesAll (A := ((0 ≤ x ∧ x < D 1 0) ∧ 0 ≤ y ∧ y < D 1 0)) (B := (¬ x = y)) (C := (((0 ≤ x ∧ x < D 1 0) ∧ 0 ≤ y ∧ y < D 1 0) ∧ hasDev D x.toNat u)) hfl hz ) dX10_transferDevice_56 (by decide) rfl cw_RX10_462 okX10_passesAll rfl (Nat.le_of_ble_eq_true rfl) ⟨Nat.le_of_ble_eq_true rfl, Nat.le_of_ble_eq_true rfl, Nat.le_of_ble_eq_true rfl, Nat.le_of_ble_eq_true rfl⟩ ?_
        refine zy_cvR [zi (zb (((0 ≤ x ∧ x < D 1 0) ∧ 0 ≤ y ∧ y < D 1 0) ∧ (¬ x = y) ∧ (((0 ≤ x ∧ x < D 1 0) ∧ 0 ≤ y ∧ y < D 1 0) ∧ hasDev D x.toNat u)))] (sX10_tried (A := (((0 ≤ x ∧ x < D 1 0) ∧ 0 ≤ y ∧ y < D 1 0) ∧ (¬ x = y) ∧ (((0 ≤ x ∧ x < D 1 0) ∧ 0 ≤ y ∧ y < D 1 0) ∧ hasDev D x.toNat u))) hfl (zOK_put hz (th3_r _ _ _)) (⟨hw, hw2, hw, hw3⟩ : ((0 ≤ x ∧ x < D 1 0) ∧ 0 ≤ y ∧ y < D 1 0) ∧ (¬ x = y) ∧ (((0 ≤ x ∧ x < D 1 0) ∧ 0 ≤ y ∧ y < D 1 0) ∧ hasDev D x.toNat u))) dX10_transferDevice_59 (by decide) rfl cw_RX10_449 okX10_tried rfl (Nat.le_of_ble_eq_true rfl) ⟨Nat.le_of_ble_eq_true rfl, Nat.le_of_ble_eq_true rfl, Nat.le_of_ble_eq_true rfl, Nat.le_of_ble_eq_true rfl⟩ (fun τ59 hr59 => ?_)
        have hz59 : zOK τ59 := hr59.1
        have hRt : Rel D (τ59.1 262) := mfr_R (mfr_cpo hr59.2 (by decide)) (by decide) (Rel_put (by decide) hR)
        have h5t : 0 ≤ τ59.1 261 5 ∧ τ59.1 261 5 ≤ 8 := by rw [hr59.2.1 261 (by decide), zput_i _ _ _ _ _ (by decide)]; exact hm5
        refine zx_if_eq (tgt := 79) (by first | exact hz59 _ _ | assumption | exact zr_b _ | exact zcmp_r _ _ | (unfold zr at *; omega)) dX10_transferDevice_62 (by decide) (fun h62 => ?_) (fun h62 => ?_)
        · have h62 := zb_0.mp h62
          exact absurd (⟨hw, hw2, hw, hw3⟩ : ((0 ≤ x ∧ x < D 1 0) ∧ 0 ≤ y ∧ y < D 1 0) ∧ (¬ x = y) ∧ (((0 ≤ x ∧ x < D 1 0) ∧ 0 ≤ y ∧ y < D 1 0) ∧ hasDev D x.toNat u)) (by assumption)
        · have h62 := zb_n.mp h62
          refine zx_aloadN dX10_transferDevice_65 rfl rfl ?_
          refine zx_aloadN dX10_transferDevice_66 rfl rfl ?_
          refine zx_iloadN dX10_transferDevice_67 rfl rfl ?_
          refine zx_iloadN dX10_transferDevice_68 rfl rfl ?_
          refine zx_iloadN dX10_transferDevice_69 rfl rfl ?_
          refine zy_cvR [zi x, zi y, zi u] (sX10_lendNow (D := D) hfl hz59 (by first | assumption | omega) hRt (by first | exact hz59 _ _ | assumption | exact zr_b _ | exact zcmp_r _ _ | (unfold zr at *; omega)) (by first | exact hz59 _ _ | assumption | exact zr_b _ | exact zcmp_r _ _ | (unfold zr at *; omega)) (by first | exact hz59 _ _ | assumption | exact zr_b _ | exact zcmp_r _ _ | (unfold zr at *; omega)) hw ⟨hw2, hw3⟩) dX10_transferDevice_70 (by decide) rfl cw_RX10_384 okX10_lendNow rfl (Nat.le_of_ble_eq_true rfl) ⟨Nat.le_of_ble_eq_true rfl, Nat.le_of_ble_eq_true rfl, Nat.le_of_ble_eq_true rfl, Nat.le_of_ble_eq_true rfl⟩ (fun τ70 hr70 => ?_)
          have hz70 : zOK τ70 := hr70.1
          have h5n : 0 ≤ τ70.1 261 5 ∧ τ70.1 261 5 ≤ 8 := by rw [hr70.2.1.2.1 5 (by omega)]; exact h5t
          refine zy_cvR [zi (zb True)] (sX10_done (A := True) hfl hz70 h5n) dX10_transferDevice_73 (by decide) rfl cw_RX10_452 okX10_done rfl (Nat.le_of_ble_eq_true rfl) ⟨Nat.le_of_ble_eq_true rfl, Nat.le_of_ble_eq_true rfl, Nat.le_of_ble_eq_true rfl, Nat.le_of_ble_eq_true rfl⟩ (fun τ73 hr73 => ?_)
          have hz73 : zOK τ73 := hr73.1
          refine zx_goto (tgt := 80) dX10_transferDevice_76 (by decide) ?_
          refine zx_iret rfl rfl dX10_transferDevice_80 ?_
          rw [hQ]
          refine ⟨congrArg (fun z : Int => (Sum.inl (some (zi z)) : Option zV ⊕ String)) ?_, ?_⟩
          · exact hr70.2.2.2
          have ht : mfr (zput σ 261 6 (th3 ((0 ≤ x ∧ x < D 1 0) ∧ 0 ≤ y ∧ y < D 1 0) (¬ x = y) (((0 ≤ x ∧ x < D 1 0) ∧ 0 ≤ y ∧ y < D 1 0) ∧ hasDev D x.toNat u))) τ59 (fun k => k = 264) (fun _ => False) := mfr_cpo hr59.2 (by decide)
          have mB : mfr σ (zput σ 261 6 (th3 ((0 ≤ x ∧ x < D 1 0) ∧ 0 ≤ y ∧ y < D 1 0) (¬ x = y) (((0 ≤ x ∧ x < D 1 0) ∧ 0 ≤ y ∧ y < D 1 0) ∧ hasDev D x.toNat u))) (fun _ => False) (fun i => i = 6) := mfr_mo (mfr_put261 (mfr_rf σ (fun _ => False) (fun _ => False))) (fun k q => q) (fun i q => by rcases q with q | q; exact absurd q id; exact q)
          have m1 : mfr σ τ59 mA mF := mfr_tr mB ht (fun k q => by rcases q with q | q; exact absurd q id; exact Or.inr (Or.inl q)) (fun i q => by rcases q with q | q; exact Or.inr (Or.inl q); exact absurd q id)
          have m2 : mfr σ τ70 mA mF := mfr_tr m1 hr70.2.1 (fun k q => by unfold mA at *; omega) (fun i q => by unfold mF at *; omega)
          have m3 : mfr σ τ73 mA mF := mfr_tr m2 hr73.2.1 (fun k q => by unfold mA at *; omega) (fun i q => by unfold mF at *; omega)
          have h264 : ∀ j, j < 380 → τ70.1 264 j = σ.1 262 j := fun j hj => by
            rw [hr70.2.1.1 264 (by omega) (by omega) j]
            have := hr59.2.2.2.1 j hj
            rw [Nat.zero_add] at this
            rw [this]; exact zput_k _ _ _ _ _ (by omega)
          have h266 : ∀ j, τ70.1 266 j = σ.1 266 j := fun j => by
            rw [hr70.2.1.1 266 (by omega) (by omega) j, ht.1 266 (by omega) (by omega) j]; exact zput_k _ _ _ _ _ (by omega)
          have h65 : τ70.1 261 5 = σ.1 261 5 := by
            rw [hr70.2.1.2.1 5 (by omega), ht.2.1 5 (fun q => q)]; exact zput_i _ _ _ _ _ (by omega)
          have h66 : τ73.1 261 6 = 0 := by
            rw [hr73.2.1.2.1 6 (by omega), hr70.2.1.2.1 6 (by omega), ht.2.1 6 (fun q => q)]; exact (zput_s _ _ _ _).trans (th3_0 hw hw2 ⟨hw, hw3⟩)
          exact ⟨hz73, m3, mfr_R hr73.2.1 (by omega) hr70.2.2.1, MPu_to hr73.2.2 h65 h266 h264, h66⟩
      · have h39 := zb_n.mp h39
        refine zx_aloadN dX10_transferDevice_42 rfl rfl ?_
        refine zx_iloadN dX10_transferDevice_43 rfl rfl ?_
        refine zy_top (b := ((x.toNat : Nat) : Int)) (by omega) ?_
        refine zx_iloadN dX10_transferDevice_44 rfl rfl ?_
        refine zy_cv [zi ((x.toNat : Nat) : Int), zi u] (sX10_ownsDevice (D := D) (p := x.toNat) hfl hz (by first | assumption | omega) (by first | assumption | (refine Rel_put (by decide) ?_; assumption) | (refine Rel_put (by decide) (Rel_put (by decide) ?_); assumption) | (refine Rel_put (by decide) (Rel_put (by decide) (Rel_put (by decide) ?_)); assumption)) (by first | assumption | omega) (by first | exact hz _ _ | assumption | exact zr_b _ | exact zcmp_r _ _ | (unfold zr at *; omega))) dX10_transferDevice_45 (by decide) rfl cw_RX10_90 okX10_ownsDevice rfl (Nat.le_of_ble_eq_true rfl) ⟨Nat.le_of_ble_eq_true rfl, Nat.le_of_ble_eq_true rfl, Nat.le_of_ble_eq_true rfl, Nat.le_of_ble_eq_true rfl⟩ ?_
        refine zx_if_eq (tgt := 55) (by first | exact hz _ _ | assumption | exact zr_b _ | exact zcmp_r _ _ | (unfold zr at *; omega)) dX10_transferDevice_48 (by decide) (fun h48 => ?_) (fun h48 => ?_)
        · have h48 := zb_0.mp h48
          refine zx_iconst dX10_transferDevice_55 ?_
          refine zy_top (b := zb (((0 ≤ x ∧ x < D 1 0) ∧ 0 ≤ y ∧ y < D 1 0) ∧ hasDev D x.toNat u)) (by first | exact (zb_t (by exact ⟨by assumption, by assumption⟩)).symm | exact (zb_f (fun q => absurd q.1 (by assumption))).symm | exact (zb_f (fun q => absurd q.2 (by assumption))).symm) ?_
          refine zy_cv [zi (zb ((0 ≤ x ∧ x < D 1 0) ∧ 0 ≤ y ∧ y < D 1 0)), zi (zb (¬ x = y)), zi (zb (((0 ≤ x ∧ x < D 1 0) ∧ 0 ≤ y ∧ y < D 1 0) ∧ hasDev D x.toNat u))] (sX10_passesAll (A := ((0 ≤ x ∧ x < D 1 0) ∧ 0 ≤ y ∧ y < D 1 0)) (B := (¬ x = y)) (C := (((0 ≤ x ∧ x < D 1 0) ∧ 0 ≤ y ∧ y < D 1 0) ∧ hasDev D x.toNat u)) hfl hz ) dX10_transferDevice_56 (by decide) rfl cw_RX10_462 okX10_passesAll rfl (Nat.le_of_ble_eq_true rfl) ⟨Nat.le_of_ble_eq_true rfl, Nat.le_of_ble_eq_true rfl, Nat.le_of_ble_eq_true rfl, Nat.le_of_ble_eq_true rfl⟩ ?_
          refine zy_cvR [zi (zb (((0 ≤ x ∧ x < D 1 0) ∧ 0 ≤ y ∧ y < D 1 0) ∧ (¬ x = y) ∧ (((0 ≤ x ∧ x < D 1 0) ∧ 0 ≤ y ∧ y < D 1 0) ∧ hasDev D x.toNat u)))] (sX10_tried (A := (((0 ≤ x ∧ x < D 1 0) ∧ 0 ≤ y ∧ y < D 1 0) ∧ (¬ x = y) ∧ (((0 ≤ x ∧ x < D 1 0) ∧ 0 ≤ y ∧ y < D 1 0) ∧ hasDev D x.toNat u))) hfl (zOK_put hz (th3_r _ _ _)) (⟨hw, hw2, hw, hw3⟩ : ((0 ≤ x ∧ x < D 1 0) ∧ 0 ≤ y ∧ y < D 1 0) ∧ (¬ x = y) ∧ (((0 ≤ x ∧ x < D 1 0) ∧ 0 ≤ y ∧ y < D 1 0) ∧ hasDev D x.toNat u))) dX10_transferDevice_59 (by decide) rfl cw_RX10_449 okX10_tried rfl (Nat.le_of_ble_eq_true rfl) ⟨Nat.le_of_ble_eq_true rfl, Nat.le_of_ble_eq_true rfl, Nat.le_of_ble_eq_true rfl, Nat.le_of_ble_eq_true rfl⟩ (fun τ59 hr59 => ?_)
          have hz59 : zOK τ59 := hr59.1
          have hRt : Rel D (τ59.1 262) := mfr_R (mfr_cpo hr59.2 (by decide)) (by decide) (Rel_put (by decide) hR)
          have h5t : 0 ≤ τ59.1 261 5 ∧ τ59.1 261 5 ≤ 8 := by rw [hr59.2.1 261 (by decide), zput_i _ _ _ _ _ (by decide)]; exact hm5
          refine zx_if_eq (tgt := 79) (by first | exact hz59 _ _ | assumption | exact zr_b _ | exact zcmp_r _ _ | (unfold zr at *; omega)) dX10_transferDevice_62 (by decide) (fun h62 => ?_) (fun h62 => ?_)
          · have h62 := zb_0.mp h62
            exact absurd (⟨hw, hw2, hw, hw3⟩ : ((0 ≤ x ∧ x < D 1 0) ∧ 0 ≤ y ∧ y < D 1 0) ∧ (¬ x = y) ∧ (((0 ≤ x ∧ x < D 1 0) ∧ 0 ≤ y ∧ y < D 1 0) ∧ hasDev D x.toNat u)) (by assumption)
          · have h62 := zb_n.mp h62
            refine zx_aloadN dX10_transferDevice_65 rfl rfl ?_
            refine zx_aloadN dX10_transferDevice_66 rfl rfl ?_
            refine zx_iloadN dX10_transferDevice_67 rfl rfl ?_
            refine zx_iloadN dX10_transferDevice_68 rfl rfl ?_
            refine zx_iloadN dX10_transferDevice_69 rfl rfl ?_
            refine zy_cvR [zi x, zi y, zi u] (sX10_lendNow (D := D) hfl hz59 (by first | assumption | omega) hRt (by first | exact hz59 _ _ | assumption | exact zr_b _ | exact zcmp_r _ _ | (unfold zr at *; omega)) (by first | exact hz59 _ _ | assumption | exact zr_b _ | exact zcmp_r _ _ | (unfold zr at *; omega)) (by first | exact hz59 _ _ | assumption | exact zr_b _ | exact zcmp_r _ _ | (unfold zr at *; omega)) hw ⟨hw2, hw3⟩) dX10_transferDevice_70 (by decide) rfl cw_RX10_384 okX10_lendNow rfl (Nat.le_of_ble_eq_true rfl) ⟨Nat.le_of_ble_eq_true rfl, Nat.le_of_ble_eq_true rfl, Nat.le_of_ble_eq_true rfl, Nat.le_of_ble_eq_true rfl⟩ (fun τ70 hr70 => ?_)
            have hz70 : zOK τ70 := hr70.1
            have h5n : 0 ≤ τ70.1 261 5 ∧ τ70.1 261 5 ≤ 8 := by rw [hr70.2.1.2.1 5 (by omega)]; exact h5t
            refine zy_cvR [zi (zb True)] (sX10_done (A := True) hfl hz70 h5n) dX10_transferDevice_73 (by decide) rfl cw_RX10_452 okX10_done rfl (Nat.le_of_ble_eq_true rfl) ⟨Nat.le_of_ble_eq_true rfl, Nat.le_of_ble_eq_true rfl, Nat.le_of_ble_eq_true rfl, Nat.le_of_ble_eq_true rfl⟩ (fun τ73 hr73 => ?_)
            have hz73 : zOK τ73 := hr73.1
            refine zx_goto (tgt := 80) dX10_transferDevice_76 (by decide) ?_
            refine zx_iret rfl rfl dX10_transferDevice_80 ?_
            rw [hQ]
            refine ⟨congrArg (fun z : Int => (Sum.inl (some (zi z)) : Option zV ⊕ String)) ?_, ?_⟩
            · exact hr70.2.2.2
            have ht : mfr (zput σ 261 6 (th3 ((0 ≤ x ∧ x < D 1 0) ∧ 0 ≤ y ∧ y < D 1 0) (¬ x = y) (((0 ≤ x ∧ x < D 1 0) ∧ 0 ≤ y ∧ y < D 1 0) ∧ hasDev D x.toNat u))) τ59 (fun k => k = 264) (fun _ => False) := mfr_cpo hr59.2 (by decide)
            have mB : mfr σ (zput σ 261 6 (th3 ((0 ≤ x ∧ x < D 1 0) ∧ 0 ≤ y ∧ y < D 1 0) (¬ x = y) (((0 ≤ x ∧ x < D 1 0) ∧ 0 ≤ y ∧ y < D 1 0) ∧ hasDev D x.toNat u))) (fun _ => False) (fun i => i = 6) := mfr_mo (mfr_put261 (mfr_rf σ (fun _ => False) (fun _ => False))) (fun k q => q) (fun i q => by rcases q with q | q; exact absurd q id; exact q)
            have m1 : mfr σ τ59 mA mF := mfr_tr mB ht (fun k q => by rcases q with q | q; exact absurd q id; exact Or.inr (Or.inl q)) (fun i q => by rcases q with q | q; exact Or.inr (Or.inl q); exact absurd q id)
            have m2 : mfr σ τ70 mA mF := mfr_tr m1 hr70.2.1 (fun k q => by unfold mA at *; omega) (fun i q => by unfold mF at *; omega)
            have m3 : mfr σ τ73 mA mF := mfr_tr m2 hr73.2.1 (fun k q => by unfold mA at *; omega) (fun i q => by unfold mF at *; omega)
            have h264 : ∀ j, j < 380 → τ70.1 264 j = σ.1 262 j := fun j hj => by
              rw [hr70.2.1.1 264 (by omega) (by omega) j]
              have := hr59.2.2.2.1 j hj
              rw [Nat.zero_add] at this
              rw [this]; exact zput_k _ _ _ _ _ (by omega)
            have h266 : ∀ j, τ70.1 266 j = σ.1 266 j := fun j => by
              rw [hr70.2.1.1 266 (by omega) (by omega) j, ht.1 266 (by omega) (by omega) j]; exact zput_k _ _ _ _ _ (by omega)
            have h65 : τ70.1 261 5 = σ.1 261 5 := by
              rw [hr70.2.1.2.1 5 (by omega), ht.2.1 5 (fun q => q)]; exact zput_i _ _ _ _ _ (by omega)
            have h66 : τ73.1 261 6 = 0 := by
              rw [hr73.2.1.2.1 6 (by omega), hr70.2.1.2.1 6 (by omega), ht.2.1 6 (fun q => q)]; exact (zput_s _ _ _ _).trans (th3_0 hw hw2 ⟨hw, hw3⟩)
            exact ⟨hz73, m3, mfr_R hr73.2.1 (by omega) hr70.2.2.1, MPu_to hr73.2.2 h65 h266 h264, h66⟩
        · have h48 := zb_n.mp h48
          refine zx_iconst dX10_transferDevice_51 ?_
          refine zx_goto (tgt := 56) dX10_transferDevice_52 (by decide) ?_
          refine zy_top (b := zb (((0 ≤ x ∧ x < D 1 0) ∧ 0 ≤ y ∧ y < D 1 0) ∧ hasDev D x.toNat u)) (by first | exact (zb_t (by exact ⟨by assumption, by assumption⟩)).symm | exact (zb_f (fun q => absurd q.1 (by assumption))).symm | exact (zb_f (fun q => absurd q.2 (by assumption))).symm) ?_
          refine zy_cv [zi (zb ((0 ≤ x ∧ x < D 1 0) ∧ 0 ≤ y ∧ y < D 1 0)), zi (zb (¬ x = y)), zi (zb (((0 ≤ x ∧ x < D 1 0) ∧ 0 ≤ y ∧ y < D 1 0) ∧ hasDev D x.toNat u))] (sX10_passesAll (A := ((0 ≤ x ∧ x < D 1 0) ∧ 0 ≤ y ∧ y < D 1 0)) (B := (¬ x = y)) (C := (((0 ≤ x ∧ x < D 1 0) ∧ 0 ≤ y ∧ y < D 1 0) ∧ hasDev D x.toNat u)) hfl hz ) dX10_transferDevice_56 (by decide) rfl cw_RX10_462 okX10_passesAll rfl (Nat.le_of_ble_eq_true rfl) ⟨Nat.le_of_ble_eq_true rfl, Nat.le_of_ble_eq_true rfl, Nat.le_of_ble_eq_true rfl, Nat.le_of_ble_eq_true rfl⟩ ?_
          refine zy_cvR [zi (zb (((0 ≤ x ∧ x < D 1 0) ∧ 0 ≤ y ∧ y < D 1 0) ∧ (¬ x = y) ∧ (((0 ≤ x ∧ x < D 1 0) ∧ 0 ≤ y ∧ y < D 1 0) ∧ hasDev D x.toNat u)))] (sX10_tried (A := (((0 ≤ x ∧ x < D 1 0) ∧ 0 ≤ y ∧ y < D 1 0) ∧ (¬ x = y) ∧ (((0 ≤ x ∧ x < D 1 0) ∧ 0 ≤ y ∧ y < D 1 0) ∧ hasDev D x.toNat u))) hfl (zOK_put hz (th3_r _ _ _)) (⟨hw, hw2, hw, hw3⟩ : ((0 ≤ x ∧ x < D 1 0) ∧ 0 ≤ y ∧ y < D 1 0) ∧ (¬ x = y) ∧ (((0 ≤ x ∧ x < D 1 0) ∧ 0 ≤ y ∧ y < D 1 0) ∧ hasDev D x.toNat u))) dX10_transferDevice_59 (by decide) rfl cw_RX10_449 okX10_tried rfl (Nat.le_of_ble_eq_true rfl) ⟨Nat.le_of_ble_eq_true rfl, Nat.le_of_ble_eq_true rfl, Nat.le_of_ble_eq_true rfl, Nat.le_of_ble_eq_true rfl⟩ (fun τ59 hr59 => ?_)
          have hz59 : zOK τ59 := hr59.1
          have hRt : Rel D (τ59.1 262) := mfr_R (mfr_cpo hr59.2 (by decide)) (by decide) (Rel_put (by decide) hR)
          have h5t : 0 ≤ τ59.1 261 5 ∧ τ59.1 261 5 ≤ 8 := by rw [hr59.2.1 261 (by decide), zput_i _ _ _ _ _ (by decide)]; exact hm5
          refine zx_if_eq (tgt := 79) (by first | exact hz59 _ _ | assumption | exact zr_b _ | exact zcmp_r _ _ | (unfold zr at *; omega)) dX10_transferDevice_62 (by decide) (fun h62 => ?_) (fun h62 => ?_)
          · have h62 := zb_0.mp h62
            exact absurd (⟨hw, hw2, hw, hw3⟩ : ((0 ≤ x ∧ x < D 1 0) ∧ 0 ≤ y ∧ y < D 1 0) ∧ (¬ x = y) ∧ (((0 ≤ x ∧ x < D 1 0) ∧ 0 ≤ y ∧ y < D 1 0) ∧ hasDev D x.toNat u)) (by assumption)
          · have h62 := zb_n.mp h62
            refine zx_aloadN dX10_transferDevice_65 rfl rfl ?_
            refine zx_aloadN dX10_transferDevice_66 rfl rfl ?_
            refine zx_iloadN dX10_transferDevice_67 rfl rfl ?_
            refine zx_iloadN dX10_transferDevice_68 rfl rfl ?_
            refine zx_iloadN dX10_transferDevice_69 rfl rfl ?_
            refine zy_cvR [zi x, zi y, zi u] (sX10_lendNow (D := D) hfl hz59 (by first | assumption | omega) hRt (by first | exact hz59 _ _ | assumption | exact zr_b _ | exact zcmp_r _ _ | (unfold zr at *; omega)) (by first | exact hz59 _ _ | assumption | exact zr_b _ | exact zcmp_r _ _ | (unfold zr at *; omega)) (by first | exact hz59 _ _ | assumption | exact zr_b _ | exact zcmp_r _ _ | (unfold zr at *; omega)) hw ⟨hw2, hw3⟩) dX10_transferDevice_70 (by decide) rfl cw_RX10_384 okX10_lendNow rfl (Nat.le_of_ble_eq_true rfl) ⟨Nat.le_of_ble_eq_true rfl, Nat.le_of_ble_eq_true rfl, Nat.le_of_ble_eq_true rfl, Nat.le_of_ble_eq_true rfl⟩ (fun τ70 hr70 => ?_)
            have hz70 : zOK τ70 := hr70.1
            have h5n : 0 ≤ τ70.1 261 5 ∧ τ70.1 261 5 ≤ 8 := by rw [hr70.2.1.2.1 5 (by omega)]; exact h5t
            refine zy_cvR [zi (zb True)] (sX10_done (A := True) hfl hz70 h5n) dX10_transferDevice_73 (by decide) rfl cw_RX10_452 okX10_done rfl (Nat.le_of_ble_eq_true rfl) ⟨Nat.le_of_ble_eq_true rfl, Nat.le_of_ble_eq_true rfl, Nat.le_of_ble_eq_true rfl, Nat.le_of_ble_eq_true rfl⟩ (fun τ73 hr73 => ?_)
            have hz73 : zOK τ73 := hr73.1
            refine zx_goto (tgt := 80) dX10_transferDevice_76 (by decide) ?_
            refine zx_iret rfl rfl dX10_transferDevice_80 ?_
            rw [hQ]
            refine ⟨congrArg (fun z : Int => (Sum.inl (some (zi z)) : Option zV ⊕ String)) ?_, ?_⟩
            · exact hr70.2.2.2
            have ht : mfr (zput σ 261 6 (th3 ((0 ≤ x ∧ x < D 1 0) ∧ 0 ≤ y ∧ y < D 1 0) (¬ x = y) (((0 ≤ x ∧ x < D 1 0) ∧ 0 ≤ y ∧ y < D 1 0) ∧ hasDev D x.toNat u))) τ59 (fun k => k = 264) (fun _ => False) := mfr_cpo hr59.2 (by decide)
            have mB : mfr σ (zput σ 261 6 (th3 ((0 ≤ x ∧ x < D 1 0) ∧ 0 ≤ y ∧ y < D 1 0) (¬ x = y) (((0 ≤ x ∧ x < D 1 0) ∧ 0 ≤ y ∧ y < D 1 0) ∧ hasDev D x.toNat u))) (fun _ => False) (fun i => i = 6) := mfr_mo (mfr_put261 (mfr_rf σ (fun _ => False) (fun _ => False))) (fun k q => q) (fun i q => by rcases q with q | q; exact absurd q id; exact q)
            have m1 : mfr σ τ59 mA mF := mfr_tr mB ht (fun k q => by rcases q with q | q; exact absurd q id; exact Or.inr (Or.inl q)) (fun i q => by rcases q with q | q; exact Or.inr (Or.inl q); exact absurd q id)
            have m2 : mfr σ τ70 mA mF := mfr_tr m1 hr70.2.1 (fun k q => by unfold mA at *; omega) (fun i q => by unfold mF at *; omega)
            have m3 : mfr σ τ73 mA mF := mfr_tr m2 hr73.2.1 (fun k q => by unfold mA at *; omega) (fun i q => by unfold mF at *; omega)
            have h264 : ∀ j, j < 380 → τ70.1 264 j = σ.1 262 j := fun j hj => by
              rw [hr70.2.1.1 264 (by omega) (by omega) j]
              have := hr59.2.2.2.1 j hj
              rw [Nat.zero_add] at this
              rw [this]; exact zput_k _ _ _ _ _ (by omega)
            have h266 : ∀ j, τ70.1 266 j = σ.1 266 j := fun j => by
              rw [hr70.2.1.1 266 (by omega) (by omega) j, ht.1 266 (by omega) (by omega) j]; exact zput_k _ _ _ _ _ (by omega)
            have h65 : τ70.1 261 5 = σ.1 261 5 := by
              rw [hr70.2.1.2.1 5 (by omega), ht.2.1 5 (fun q => q)]; exact zput_i _ _ _ _ _ (by omega)
            have h66 : τ73.1 261 6 = 0 := by
              rw [hr73.2.1.2.1 6 (by omega), hr70.2.1.2.1 6 (by omega), ht.2.1 6 (fun q => q)]; exact (zput_s _ _ _ _).trans (th3_0 hw hw2 ⟨hw, hw3⟩)
            exact ⟨hz73, m3, mfr_R hr73.2.1 (by omega) hr70.2.2.1, MPu_to hr73.2.2 h65 h266 h264, h66⟩
  · have h5 := zb_n.mp h5
    refine zx_aloadN dX10_transferDevice_8 rfl rfl ?_
    refine zx_iloadN dX10_transferDevice_9 rfl rfl ?_
    refine zy_cv [zi y] (sX10_isPrinter (D := D) hfl hz (by first | assumption | omega) (by first | assumption | (refine Rel_put (by decide) ?_; assumption) | (refine Rel_put (by decide) (Rel_put (by decide) ?_); assumption) | (refine Rel_put (by decide) (Rel_put (by decide) (Rel_put (by decide) ?_)); assumption)) (by first | exact hz _ _ | assumption | exact zr_b _ | exact zcmp_r _ _ | (unfold zr at *; omega))) dX10_transferDevice_10 (by decide) rfl cw_RX10_400 okX10_isPrinter rfl (Nat.le_of_ble_eq_true rfl) ⟨Nat.le_of_ble_eq_true rfl, Nat.le_of_ble_eq_true rfl, Nat.le_of_ble_eq_true rfl, Nat.le_of_ble_eq_true rfl⟩ ?_
    refine zx_if_eq (tgt := 20) (by first | exact hz _ _ | assumption | exact zr_b _ | exact zcmp_r _ _ | (unfold zr at *; omega)) dX10_transferDevice_13 (by decide) (fun h13 => ?_) (fun h13 => ?_)
    · have h13 := zb_0.mp h13
      refine zx_iconst dX10_transferDevice_20 ?_
      refine zy_top (b := zb ((0 ≤ x ∧ x < D 1 0) ∧ 0 ≤ y ∧ y < D 1 0)) (by first | exact (zb_t (by exact ⟨by assumption, by assumption⟩)).symm | exact (zb_f (fun q => absurd q.1 (by assumption))).symm | exact (zb_f (fun q => absurd q.2 (by assumption))).symm) ?_
      refine zy_istore [zf 10 261, zi x, zi y, zi u, zi (zb ((0 ≤ x ∧ x < D 1 0) ∧ 0 ≤ y ∧ y < D 1 0))] dX10_transferDevice_21 (Nat.le_of_ble_eq_true rfl) (Nat.le_of_ble_eq_true rfl) rfl rfl ?_
      refine zx_aloadN dX10_transferDevice_23 rfl rfl ?_
      refine zx_aloadN dX10_transferDevice_24 rfl rfl ?_
      refine zx_iload dX10_transferDevice_25 rfl ?_
      refine zx_iloadN dX10_transferDevice_27 rfl rfl ?_
      refine zx_iloadN dX10_transferDevice_28 rfl rfl ?_
      refine zx_icmp_eq (tgt := 36) (by first | exact hz _ _ | assumption | exact zr_b _ | exact zcmp_r _ _ | (unfold zr at *; omega)) (by first | exact hz _ _ | assumption | exact zr_b _ | exact zcmp_r _ _ | (unfold zr at *; omega)) dX10_transferDevice_29 (by decide) (fun h29 => ?_) (fun h29 => ?_)
      · refine zx_iconst dX10_transferDevice_36 ?_
        refine zy_top (b := zb (¬ x = y)) (by first | exact (zb_t (by assumption)).symm | exact (zb_t (by omega)).symm | exact (zb_f (by omega)).symm | exact (zb_f (by assumption)).symm | exact (zb_f (fun q => q (by assumption))).symm) ?_
        refine zx_iload dX10_transferDevice_37 rfl ?_
        refine zx_if_eq (tgt := 55) (by first | exact hz _ _ | assumption | exact zr_b _ | exact zcmp_r _ _ | (unfold zr at *; omega)) dX10_transferDevice_39 (by decide) (fun h39 => ?_) (fun h39 => ?_)
        · have h39 := zb_0.mp h39
          refine zx_iconst dX10_transferDevice_55 ?_
          refine zy_top (b := zb (((0 ≤ x ∧ x < D 1 0) ∧ 0 ≤ y ∧ y < D 1 0) ∧ hasDev D x.toNat u)) (by first | exact (zb_t (by exact ⟨by assumption, by assumption⟩)).symm | exact (zb_f (fun q => absurd q.1 (by assumption))).symm | exact (zb_f (fun q => absurd q.2 (by assumption))).symm) ?_
          refine zy_cv [zi (zb ((0 ≤ x ∧ x < D 1 0) ∧ 0 ≤ y ∧ y < D 1 0)), zi (zb (¬ x = y)), zi (zb (((0 ≤ x ∧ x < D 1 0) ∧ 0 ≤ y ∧ y < D 1 0) ∧ hasDev D x.toNat u))] (sX10_passesAll (A := ((0 ≤ x ∧ x < D 1 0) ∧ 0 ≤ y ∧ y < D 1 0)) (B := (¬ x = y)) (C := (((0 ≤ x ∧ x < D 1 0) ∧ 0 ≤ y ∧ y < D 1 0) ∧ hasDev D x.toNat u)) hfl hz ) dX10_transferDevice_56 (by decide) rfl cw_RX10_462 okX10_passesAll rfl (Nat.le_of_ble_eq_true rfl) ⟨Nat.le_of_ble_eq_true rfl, Nat.le_of_ble_eq_true rfl, Nat.le_of_ble_eq_true rfl, Nat.le_of_ble_eq_true rfl⟩ ?_
          refine zy_cvR [zi (zb (((0 ≤ x ∧ x < D 1 0) ∧ 0 ≤ y ∧ y < D 1 0) ∧ (¬ x = y) ∧ (((0 ≤ x ∧ x < D 1 0) ∧ 0 ≤ y ∧ y < D 1 0) ∧ hasDev D x.toNat u)))] (sX10_tried (A := (((0 ≤ x ∧ x < D 1 0) ∧ 0 ≤ y ∧ y < D 1 0) ∧ (¬ x = y) ∧ (((0 ≤ x ∧ x < D 1 0) ∧ 0 ≤ y ∧ y < D 1 0) ∧ hasDev D x.toNat u))) hfl (zOK_put hz (th3_r _ _ _)) (⟨hw, hw2, hw, hw3⟩ : ((0 ≤ x ∧ x < D 1 0) ∧ 0 ≤ y ∧ y < D 1 0) ∧ (¬ x = y) ∧ (((0 ≤ x ∧ x < D 1 0) ∧ 0 ≤ y ∧ y < D 1 0) ∧ hasDev D x.toNat u))) dX10_transferDevice_59 (by decide) rfl cw_RX10_449 okX10_tried rfl (Nat.le_of_ble_eq_true rfl) ⟨Nat.le_of_ble_eq_true rfl, Nat.le_of_ble_eq_true rfl, Nat.le_of_ble_eq_true rfl, Nat.le_of_ble_eq_true rfl⟩ (fun τ59 hr59 => ?_)
          have hz59 : zOK τ59 := hr59.1
          have hRt : Rel D (τ59.1 262) := mfr_R (mfr_cpo hr59.2 (by decide)) (by decide) (Rel_put (by decide) hR)
          have h5t : 0 ≤ τ59.1 261 5 ∧ τ59.1 261 5 ≤ 8 := by rw [hr59.2.1 261 (by decide), zput_i _ _ _ _ _ (by decide)]; exact hm5
          refine zx_if_eq (tgt := 79) (by first | exact hz59 _ _ | assumption | exact zr_b _ | exact zcmp_r _ _ | (unfold zr at *; omega)) dX10_transferDevice_62 (by decide) (fun h62 => ?_) (fun h62 => ?_)
          · have h62 := zb_0.mp h62
            exact absurd (⟨hw, hw2, hw, hw3⟩ : ((0 ≤ x ∧ x < D 1 0) ∧ 0 ≤ y ∧ y < D 1 0) ∧ (¬ x = y) ∧ (((0 ≤ x ∧ x < D 1 0) ∧ 0 ≤ y ∧ y < D 1 0) ∧ hasDev D x.toNat u)) (by assumption)
          · have h62 := zb_n.mp h62
            refine zx_aloadN dX10_transferDevice_65 rfl rfl ?_
            refine zx_aloadN dX10_transferDevice_66 rfl rfl ?_
            refine zx_iloadN dX10_transferDevice_67 rfl rfl ?_
            refine zx_iloadN dX10_transferDevice_68 rfl rfl ?_
            refine zx_iloadN dX10_transferDevice_69 rfl rfl ?_
            refine zy_cvR [zi x, zi y, zi u] (sX10_lendNow (D := D) hfl hz59 (by first | assumption | omega) hRt (by first | exact hz59 _ _ | assumption | exact zr_b _ | exact zcmp_r _ _ | (unfold zr at *; omega)) (by first | exact hz59 _ _ | assumption | exact zr_b _ | exact zcmp_r _ _ | (unfold zr at *; omega)) (by first | exact hz59 _ _ | assumption | exact zr_b _ | exact zcmp_r _ _ | (unfold zr at *; omega)) hw ⟨hw2, hw3⟩) dX10_transferDevice_70 (by decide) rfl cw_RX10_384 okX10_lendNow rfl (Nat.le_of_ble_eq_true rfl) ⟨Nat.le_of_ble_eq_true rfl, Nat.le_of_ble_eq_true rfl, Nat.le_of_ble_eq_true rfl, Nat.le_of_ble_eq_true rfl⟩ (fun τ70 hr70 => ?_)
            have hz70 : zOK τ70 := hr70.1
            have h5n : 0 ≤ τ70.1 261 5 ∧ τ70.1 261 5 ≤ 8 := by rw [hr70.2.1.2.1 5 (by omega)]; exact h5t
            refine zy_cvR [zi (zb True)] (sX10_done (A := True) hfl hz70 h5n) dX10_transferDevice_73 (by decide) rfl cw_RX10_452 okX10_done rfl (Nat.le_of_ble_eq_true rfl) ⟨Nat.le_of_ble_eq_true rfl, Nat.le_of_ble_eq_true rfl, Nat.le_of_ble_eq_true rfl, Nat.le_of_ble_eq_true rfl⟩ (fun τ73 hr73 => ?_)
            have hz73 : zOK τ73 := hr73.1
            refine zx_goto (tgt := 80) dX10_transferDevice_76 (by decide) ?_
            refine zx_iret rfl rfl dX10_transferDevice_80 ?_
            rw [hQ]
            refine ⟨congrArg (fun z : Int => (Sum.inl (some (zi z)) : Option zV ⊕ String)) ?_, ?_⟩
            · exact hr70.2.2.2
            have ht : mfr (zput σ 261 6 (th3 ((0 ≤ x ∧ x < D 1 0) ∧ 0 ≤ y ∧ y < D 1 0) (¬ x = y) (((0 ≤ x ∧ x < D 1 0) ∧ 0 ≤ y ∧ y < D 1 0) ∧ hasDev D x.toNat u))) τ59 (fun k => k = 264) (fun _ => False) := mfr_cpo hr59.2 (by decide)
            have mB : mfr σ (zput σ 261 6 (th3 ((0 ≤ x ∧ x < D 1 0) ∧ 0 ≤ y ∧ y < D 1 0) (¬ x = y) (((0 ≤ x ∧ x < D 1 0) ∧ 0 ≤ y ∧ y < D 1 0) ∧ hasDev D x.toNat u))) (fun _ => False) (fun i => i = 6) := mfr_mo (mfr_put261 (mfr_rf σ (fun _ => False) (fun _ => False))) (fun k q => q) (fun i q => by rcases q with q | q; exact absurd q id; exact q)
            have m1 : mfr σ τ59 mA mF := mfr_tr mB ht (fun k q => by rcases q with q | q; exact absurd q id; exact Or.inr (Or.inl q)) (fun i q => by rcases q with q | q; exact Or.inr (Or.inl q); exact absurd q id)
            have m2 : mfr σ τ70 mA mF := mfr_tr m1 hr70.2.1 (fun k q => by unfold mA at *; omega) (fun i q => by unfold mF at *; omega)
            have m3 : mfr σ τ73 mA mF := mfr_tr m2 hr73.2.1 (fun k q => by unfold mA at *; omega) (fun i q => by unfold mF at *; omega)
            have h264 : ∀ j, j < 380 → τ70.1 264 j = σ.1 262 j := fun j hj => by
              rw [hr70.2.1.1 264 (by omega) (by omega) j]
              have := hr59.2.2.2.1 j hj
              rw [Nat.zero_add] at this
              rw [this]; exact zput_k _ _ _ _ _ (by omega)
            have h266 : ∀ j, τ70.1 266 j = σ.1 266 j := fun j => by
              rw [hr70.2.1.1 266 (by omega) (by omega) j, ht.1 266 (by omega) (by omega) j]; exact zput_k _ _ _ _ _ (by omega)
            have h65 : τ70.1 261 5 = σ.1 261 5 := by
              rw [hr70.2.1.2.1 5 (by omega), ht.2.1 5 (fun q => q)]; exact zput_i _ _ _ _ _ (by omega)
            have h66 : τ73.1 261 6 = 0 := by
              rw [hr73.2.1.2.1 6 (by omega), hr70.2.1.2.1 6 (by omega), ht.2.1 6 (fun q => q)]; exact (zput_s _ _ _ _).trans (th3_0 hw hw2 ⟨hw, hw3⟩)
            exact ⟨hz73, m3, mfr_R hr73.2.1 (by omega) hr70.2.2.1, MPu_to hr73.2.2 h65 h266 h264, h66⟩
        · have h39 := zb_n.mp h39
          refine zx_aloadN dX10_transferDevice_42 rfl rfl ?_
          refine zx_iloadN dX10_transferDevice_43 rfl rfl ?_
          refine zy_top (b := ((x.toNat : Nat) : Int)) (by omega) ?_
          refine zx_iloadN dX10_transferDevice_44 rfl rfl ?_
          refine zy_cv [zi ((x.toNat : Nat) : Int), zi u] (sX10_ownsDevice (D := D) (p := x.toNat) hfl hz (by first | assumption | omega) (by first | assumption | (refine Rel_put (by decide) ?_; assumption) | (refine Rel_put (by decide) (Rel_put (by decide) ?_); assumption) | (refine Rel_put (by decide) (Rel_put (by decide) (Rel_put (by decide) ?_)); assumption)) (by first | assumption | omega) (by first | exact hz _ _ | assumption | exact zr_b _ | exact zcmp_r _ _ | (unfold zr at *; omega))) dX10_transferDevice_45 (by decide) rfl cw_RX10_90 okX10_ownsDevice rfl (Nat.le_of_ble_eq_true rfl) ⟨Nat.le_of_ble_eq_true rfl, Nat.le_of_ble_eq_true rfl, Nat.le_of_ble_eq_true rfl, Nat.le_of_ble_eq_true rfl⟩ ?_
          refine zx_if_eq (tgt := 55) (by first | exact hz _ _ | assumption | exact zr_b _ | exact zcmp_r _ _ | (unfold zr at *; omega)) dX10_transferDevice_48 (by decide) (fun h48 => ?_) (fun h48 => ?_)
          · have h48 := zb_0.mp h48
            refine zx_iconst dX10_transferDevice_55 ?_
            refine zy_top (b := zb (((0 ≤ x ∧ x < D 1 0) ∧ 0 ≤ y ∧ y < D 1 0) ∧ hasDev D x.toNat u)) (by first | exact (zb_t (by exact ⟨by assumption, by assumption⟩)).symm | exact (zb_f (fun q => absurd q.1 (by assumption))).symm | exact (zb_f (fun q => absurd q.2 (by assumption))).symm) ?_
            refine zy_cv [zi (zb ((0 ≤ x ∧ x < D 1 0) ∧ 0 ≤ y ∧ y < D 1 0)), zi (zb (¬ x = y)), zi (zb (((0 ≤ x ∧ x < D 1 0) ∧ 0 ≤ y ∧ y < D 1 0) ∧ hasDev D x.toNat u))] (sX10_passesAll (A := ((0 ≤ x ∧ x < D 1 0) ∧ 0 ≤ y ∧ y < D 1 0)) (B := (¬ x = y)) (C := (((0 ≤ x ∧ x < D 1 0) ∧ 0 ≤ y ∧ y < D 1 0) ∧ hasDev D x.toNat u)) hfl hz ) dX10_transferDevice_56 (by decide) rfl cw_RX10_462 okX10_passesAll rfl (Nat.le_of_ble_eq_true rfl) ⟨Nat.le_of_ble_eq_true rfl, Nat.le_of_ble_eq_true rfl, Nat.le_of_ble_eq_true rfl, Nat.le_of_ble_eq_true rfl⟩ ?_
            refine zy_cvR [zi (zb (((0 ≤ x ∧ x < D 1 0) ∧ 0 ≤ y ∧ y < D 1 0) ∧ (¬ x = y) ∧ (((0 ≤ x ∧ x < D 1 0) ∧ 0 ≤ y ∧ y < D 1 0) ∧ hasDev D x.toNat u)))] (sX10_tried (A := (((0 ≤ x ∧ x < D 1 0) ∧ 0 ≤ y ∧ y < D 1 0) ∧ (¬ x = y) ∧ (((0 ≤ x ∧ x < D 1 0) ∧ 0 ≤ y ∧ y < D 1 0) ∧ hasDev D x.toNat u))) hfl (zOK_put hz (th3_r _ _ _)) (⟨hw, hw2, hw, hw3⟩ : ((0 ≤ x ∧ x < D 1 0) ∧ 0 ≤ y ∧ y < D 1 0) ∧ (¬ x = y) ∧ (((0 ≤ x ∧ x < D 1 0) ∧ 0 ≤ y ∧ y < D 1 0) ∧ hasDev D x.toNat u))) dX10_transferDevice_59 (by decide) rfl cw_RX10_449 okX10_tried rfl (Nat.le_of_ble_eq_true rfl) ⟨Nat.le_of_ble_eq_true rfl, Nat.le_of_ble_eq_true rfl, Nat.le_of_ble_eq_true rfl, Nat.le_of_ble_eq_true rfl⟩ (fun τ59 hr59 => ?_)
            have hz59 : zOK τ59 := hr59.1
            have hRt : Rel D (τ59.1 262) := mfr_R (mfr_cpo hr59.2 (by decide)) (by decide) (Rel_put (by decide) hR)
            have h5t : 0 ≤ τ59.1 261 5 ∧ τ59.1 261 5 ≤ 8 := by rw [hr59.2.1 261 (by decide), zput_i _ _ _ _ _ (by decide)]; exact hm5
            refine zx_if_eq (tgt := 79) (by first | exact hz59 _ _ | assumption | exact zr_b _ | exact zcmp_r _ _ | (unfold zr at *; omega)) dX10_transferDevice_62 (by decide) (fun h62 => ?_) (fun h62 => ?_)
            · have h62 := zb_0.mp h62
              exact absurd (⟨hw, hw2, hw, hw3⟩ : ((0 ≤ x ∧ x < D 1 0) ∧ 0 ≤ y ∧ y < D 1 0) ∧ (¬ x = y) ∧ (((0 ≤ x ∧ x < D 1 0) ∧ 0 ≤ y ∧ y < D 1 0) ∧ hasDev D x.toNat u)) (by assumption)
            · have h62 := zb_n.mp h62
              refine zx_aloadN dX10_transferDevice_65 rfl rfl ?_
              refine zx_aloadN dX10_transferDevice_66 rfl rfl ?_
              refine zx_iloadN dX10_transferDevice_67 rfl rfl ?_
              refine zx_iloadN dX10_transferDevice_68 rfl rfl ?_
              refine zx_iloadN dX10_transferDevice_69 rfl rfl ?_
              refine zy_cvR [zi x, zi y, zi u] (sX10_lendNow (D := D) hfl hz59 (by first | assumption | omega) hRt (by first | exact hz59 _ _ | assumption | exact zr_b _ | exact zcmp_r _ _ | (unfold zr at *; omega)) (by first | exact hz59 _ _ | assumption | exact zr_b _ | exact zcmp_r _ _ | (unfold zr at *; omega)) (by first | exact hz59 _ _ | assumption | exact zr_b _ | exact zcmp_r _ _ | (unfold zr at *; omega)) hw ⟨hw2, hw3⟩) dX10_transferDevice_70 (by decide) rfl cw_RX10_384 okX10_lendNow rfl (Nat.le_of_ble_eq_true rfl) ⟨Nat.le_of_ble_eq_true rfl, Nat.le_of_ble_eq_true rfl, Nat.le_of_ble_eq_true rfl, Nat.le_of_ble_eq_true rfl⟩ (fun τ70 hr70 => ?_)
              have hz70 : zOK τ70 := hr70.1
              have h5n : 0 ≤ τ70.1 261 5 ∧ τ70.1 261 5 ≤ 8 := by rw [hr70.2.1.2.1 5 (by omega)]; exact h5t
              refine zy_cvR [zi (zb True)] (sX10_done (A := True) hfl hz70 h5n) dX10_transferDevice_73 (by decide) rfl cw_RX10_452 okX10_done rfl (Nat.le_of_ble_eq_true rfl) ⟨Nat.le_of_ble_eq_true rfl, Nat.le_of_ble_eq_true rfl, Nat.le_of_ble_eq_true rfl, Nat.le_of_ble_eq_true rfl⟩ (fun τ73 hr73 => ?_)
              have hz73 : zOK τ73 := hr73.1
              refine zx_goto (tgt := 80) dX10_transferDevice_76 (by decide) ?_
              refine zx_iret rfl rfl dX10_transferDevice_80 ?_
              rw [hQ]
              refine ⟨congrArg (fun z : Int => (Sum.inl (some (zi z)) : Option zV ⊕ String)) ?_, ?_⟩
              · exact hr70.2.2.2
              have ht : mfr (zput σ 261 6 (th3 ((0 ≤ x ∧ x < D 1 0) ∧ 0 ≤ y ∧ y < D 1 0) (¬ x = y) (((0 ≤ x ∧ x < D 1 0) ∧ 0 ≤ y ∧ y < D 1 0) ∧ hasDev D x.toNat u))) τ59 (fun k => k = 264) (fun _ => False) := mfr_cpo hr59.2 (by decide)
              have mB : mfr σ (zput σ 261 6 (th3 ((0 ≤ x ∧ x < D 1 0) ∧ 0 ≤ y ∧ y < D 1 0) (¬ x = y) (((0 ≤ x ∧ x < D 1 0) ∧ 0 ≤ y ∧ y < D 1 0) ∧ hasDev D x.toNat u))) (fun _ => False) (fun i => i = 6) := mfr_mo (mfr_put261 (mfr_rf σ (fun _ => False) (fun _ => False))) (fun k q => q) (fun i q => by rcases q with q | q; exact absurd q id; exact q)
              have m1 : mfr σ τ59 mA mF := mfr_tr mB ht (fun k q => by rcases q with q | q; exact absurd q id; exact Or.inr (Or.inl q)) (fun i q => by rcases q with q | q; exact Or.inr (Or.inl q); exact absurd q id)
              have m2 : mfr σ τ70 mA mF := mfr_tr m1 hr70.2.1 (fun k q => by unfold mA at *; omega) (fun i q => by unfold mF at *; omega)
              have m3 : mfr σ τ73 mA mF := mfr_tr m2 hr73.2.1 (fun k q => by unfold mA at *; omega) (fun i q => by unfold mF at *; omega)
              have h264 : ∀ j, j < 380 → τ70.1 264 j = σ.1 262 j := fun j hj => by
                rw [hr70.2.1.1 264 (by omega) (by omega) j]
                have := hr59.2.2.2.1 j hj
                rw [Nat.zero_add] at this
                rw [this]; exact zput_k _ _ _ _ _ (by omega)
              have h266 : ∀ j, τ70.1 266 j = σ.1 266 j := fun j => by
                rw [hr70.2.1.1 266 (by omega) (by omega) j, ht.1 266 (by omega) (by omega) j]; exact zput_k _ _ _ _ _ (by omega)
              have h65 : τ70.1 261 5 = σ.1 261 5 := by
                rw [hr70.2.1.2.1 5 (by omega), ht.2.1 5 (fun q => q)]; exact zput_i _ _ _ _ _ (by omega)
              have h66 : τ73.1 261 6 = 0 := by
                rw [hr73.2.1.2.1 6 (by omega), hr70.2.1.2.1 6 (by omega), ht.2.1 6 (fun q => q)]; exact (zput_s _ _ _ _).trans (th3_0 hw hw2 ⟨hw, hw3⟩)
              exact ⟨hz73, m3, mfr_R hr73.2.1 (by omega) hr70.2.2.1, MPu_to hr73.2.2 h65 h266 h264, h66⟩
          · have h48 := zb_n.mp h48
            refine zx_iconst dX10_transferDevice_51 ?_
            refine zx_goto (tgt := 56) dX10_transferDevice_52 (by decide) ?_
            refine zy_top (b := zb (((0 ≤ x ∧ x < D 1 0) ∧ 0 ≤ y ∧ y < D 1 0) ∧ hasDev D x.toNat u)) (by first | exact (zb_t (by exact ⟨by assumption, by assumption⟩)).symm | exact (zb_f (fun q => absurd q.1 (by assumption))).symm | exact (zb_f (fun q => absurd q.2 (by assumption))).symm) ?_
            refine zy_cv [zi (zb ((0 ≤ x ∧ x < D 1 0) ∧ 0 ≤ y ∧ y < D 1 0)), zi (zb (¬ x = y)), zi (zb (((0 ≤ x ∧ x < D 1 0) ∧ 0 ≤ y ∧ y < D 1 0) ∧ hasDev D x.toNat u))] (sX10_passesAll (A := ((0 ≤ x ∧ x < D 1 0) ∧ 0 ≤ y ∧ y < D 1 0)) (B := (¬ x = y)) (C := (((0 ≤ x ∧ x < D 1 0) ∧ 0 ≤ y ∧ y < D 1 0) ∧ hasDev D x.toNat u)) hfl hz ) dX10_transferDevice_56 (by decide) rfl cw_RX10_462 okX10_passesAll rfl (Nat.le_of_ble_eq_true rfl) ⟨Nat.le_of_ble_eq_true rfl, Nat.le_of_ble_eq_true rfl, Nat.le_of_ble_eq_true rfl, Nat.le_of_ble_eq_true rfl⟩ ?_
            refine zy_cvR [zi (zb (((0 ≤ x ∧ x < D 1 0) ∧ 0 ≤ y ∧ y < D 1 0) ∧ (¬ x = y) ∧ (((0 ≤ x ∧ x < D 1 0) ∧ 0 ≤ y ∧ y < D 1 0) ∧ hasDev D x.toNat u)))] (sX10_tried (A := (((0 ≤ x ∧ x < D 1 0) ∧ 0 ≤ y ∧ y < D 1 0) ∧ (¬ x = y) ∧ (((0 ≤ x ∧ x < D 1 0) ∧ 0 ≤ y ∧ y < D 1 0) ∧ hasDev D x.toNat u))) hfl (zOK_put hz (th3_r _ _ _)) (⟨hw, hw2, hw, hw3⟩ : ((0 ≤ x ∧ x < D 1 0) ∧ 0 ≤ y ∧ y < D 1 0) ∧ (¬ x = y) ∧ (((0 ≤ x ∧ x < D 1 0) ∧ 0 ≤ y ∧ y < D 1 0) ∧ hasDev D x.toNat u))) dX10_transferDevice_59 (by decide) rfl cw_RX10_449 okX10_tried rfl (Nat.le_of_ble_eq_true rfl) ⟨Nat.le_of_ble_eq_true rfl, Nat.le_of_ble_eq_true rfl, Nat.le_of_ble_eq_true rfl, Nat.le_of_ble_eq_true rfl⟩ (fun τ59 hr59 => ?_)
            have hz59 : zOK τ59 := hr59.1
            have hRt : Rel D (τ59.1 262) := mfr_R (mfr_cpo hr59.2 (by decide)) (by decide) (Rel_put (by decide) hR)
            have h5t : 0 ≤ τ59.1 261 5 ∧ τ59.1 261 5 ≤ 8 := by rw [hr59.2.1 261 (by decide), zput_i _ _ _ _ _ (by decide)]; exact hm5
            refine zx_if_eq (tgt := 79) (by first | exact hz59 _ _ | assumption | exact zr_b _ | exact zcmp_r _ _ | (unfold zr at *; omega)) dX10_transferDevice_62 (by decide) (fun h62 => ?_) (fun h62 => ?_)
            · have h62 := zb_0.mp h62
              exact absurd (⟨hw, hw2, hw, hw3⟩ : ((0 ≤ x ∧ x < D 1 0) ∧ 0 ≤ y ∧ y < D 1 0) ∧ (¬ x = y) ∧ (((0 ≤ x ∧ x < D 1 0) ∧ 0 ≤ y ∧ y < D 1 0) ∧ hasDev D x.toNat u)) (by assumption)
            · have h62 := zb_n.mp h62
              refine zx_aloadN dX10_transferDevice_65 rfl rfl ?_
              refine zx_aloadN dX10_transferDevice_66 rfl rfl ?_
              refine zx_iloadN dX10_transferDevice_67 rfl rfl ?_
              refine zx_iloadN dX10_transferDevice_68 rfl rfl ?_
              refine zx_iloadN dX10_transferDevice_69 rfl rfl ?_
              refine zy_cvR [zi x, zi y, zi u] (sX10_lendNow (D := D) hfl hz59 (by first | assumption | omega) hRt (by first | exact hz59 _ _ | assumption | exact zr_b _ | exact zcmp_r _ _ | (unfold zr at *; omega)) (by first | exact hz59 _ _ | assumption | exact zr_b _ | exact zcmp_r _ _ | (unfold zr at *; omega)) (by first | exact hz59 _ _ | assumption | exact zr_b _ | exact zcmp_r _ _ | (unfold zr at *; omega)) hw ⟨hw2, hw3⟩) dX10_transferDevice_70 (by decide) rfl cw_RX10_384 okX10_lendNow rfl (Nat.le_of_ble_eq_true rfl) ⟨Nat.le_of_ble_eq_true rfl, Nat.le_of_ble_eq_true rfl, Nat.le_of_ble_eq_true rfl, Nat.le_of_ble_eq_true rfl⟩ (fun τ70 hr70 => ?_)
              have hz70 : zOK τ70 := hr70.1
              have h5n : 0 ≤ τ70.1 261 5 ∧ τ70.1 261 5 ≤ 8 := by rw [hr70.2.1.2.1 5 (by omega)]; exact h5t
              refine zy_cvR [zi (zb True)] (sX10_done (A := True) hfl hz70 h5n) dX10_transferDevice_73 (by decide) rfl cw_RX10_452 okX10_done rfl (Nat.le_of_ble_eq_true rfl) ⟨Nat.le_of_ble_eq_true rfl, Nat.le_of_ble_eq_true rfl, Nat.le_of_ble_eq_true rfl, Nat.le_of_ble_eq_true rfl⟩ (fun τ73 hr73 => ?_)
              have hz73 : zOK τ73 := hr73.1
              refine zx_goto (tgt := 80) dX10_transferDevice_76 (by decide) ?_
              refine zx_iret rfl rfl dX10_transferDevice_80 ?_
              rw [hQ]
              refine ⟨congrArg (fun z : Int => (Sum.inl (some (zi z)) : Option zV ⊕ String)) ?_, ?_⟩
              · exact hr70.2.2.2
              have ht : mfr (zput σ 261 6 (th3 ((0 ≤ x ∧ x < D 1 0) ∧ 0 ≤ y ∧ y < D 1 0) (¬ x = y) (((0 ≤ x ∧ x < D 1 0) ∧ 0 ≤ y ∧ y < D 1 0) ∧ hasDev D x.toNat u))) τ59 (fun k => k = 264) (fun _ => False) := mfr_cpo hr59.2 (by decide)
              have mB : mfr σ (zput σ 261 6 (th3 ((0 ≤ x ∧ x < D 1 0) ∧ 0 ≤ y ∧ y < D 1 0) (¬ x = y) (((0 ≤ x ∧ x < D 1 0) ∧ 0 ≤ y ∧ y < D 1 0) ∧ hasDev D x.toNat u))) (fun _ => False) (fun i => i = 6) := mfr_mo (mfr_put261 (mfr_rf σ (fun _ => False) (fun _ => False))) (fun k q => q) (fun i q => by rcases q with q | q; exact absurd q id; exact q)
              have m1 : mfr σ τ59 mA mF := mfr_tr mB ht (fun k q => by rcases q with q | q; exact absurd q id; exact Or.inr (Or.inl q)) (fun i q => by rcases q with q | q; exact Or.inr (Or.inl q); exact absurd q id)
              have m2 : mfr σ τ70 mA mF := mfr_tr m1 hr70.2.1 (fun k q => by unfold mA at *; omega) (fun i q => by unfold mF at *; omega)
              have m3 : mfr σ τ73 mA mF := mfr_tr m2 hr73.2.1 (fun k q => by unfold mA at *; omega) (fun i q => by unfold mF at *; omega)
              have h264 : ∀ j, j < 380 → τ70.1 264 j = σ.1 262 j := fun j hj => by
                rw [hr70.2.1.1 264 (by omega) (by omega) j]
                have := hr59.2.2.2.1 j hj
                rw [Nat.zero_add] at this
                rw [this]; exact zput_k _ _ _ _ _ (by omega)
              have h266 : ∀ j, τ70.1 266 j = σ.1 266 j := fun j => by
                rw [hr70.2.1.1 266 (by omega) (by omega) j, ht.1 266 (by omega) (by omega) j]; exact zput_k _ _ _ _ _ (by omega)
              have h65 : τ70.1 261 5 = σ.1 261 5 := by
                rw [hr70.2.1.2.1 5 (by omega), ht.2.1 5 (fun q => q)]; exact zput_i _ _ _ _ _ (by omega)
              have h66 : τ73.1 261 6 = 0 := by
                rw [hr73.2.1.2.1 6 (by omega), hr70.2.1.2.1 6 (by omega), ht.2.1 6 (fun q => q)]; exact (zput_s _ _ _ _).trans (th3_0 hw hw2 ⟨hw, hw3⟩)
              exact ⟨hz73, m3, mfr_R hr73.2.1 (by omega) hr70.2.2.1, MPu_to hr73.2.2 h65 h266 h264, h66⟩
      · refine zx_iconst dX10_transferDevice_32 ?_
        refine zx_goto (tgt := 37) dX10_transferDevice_33 (by decide) ?_
        refine zy_top (b := zb (¬ x = y)) (by first | exact (zb_t (by assumption)).symm | exact (zb_t (by omega)).symm | exact (zb_f (by omega)).symm | exact (zb_f (by assumption)).symm | exact (zb_f (fun q => q (by assumption))).symm) ?_
        refine zx_iload dX10_transferDevice_37 rfl ?_
        refine zx_if_eq (tgt := 55) (by first | exact hz _ _ | assumption | exact zr_b _ | exact zcmp_r _ _ | (unfold zr at *; omega)) dX10_transferDevice_39 (by decide) (fun h39 => ?_) (fun h39 => ?_)
        · have h39 := zb_0.mp h39
          refine zx_iconst dX10_transferDevice_55 ?_
          refine zy_top (b := zb (((0 ≤ x ∧ x < D 1 0) ∧ 0 ≤ y ∧ y < D 1 0) ∧ hasDev D x.toNat u)) (by first | exact (zb_t (by exact ⟨by assumption, by assumption⟩)).symm | exact (zb_f (fun q => absurd q.1 (by assumption))).symm | exact (zb_f (fun q => absurd q.2 (by assumption))).symm) ?_
          refine zy_cv [zi (zb ((0 ≤ x ∧ x < D 1 0) ∧ 0 ≤ y ∧ y < D 1 0)), zi (zb (¬ x = y)), zi (zb (((0 ≤ x ∧ x < D 1 0) ∧ 0 ≤ y ∧ y < D 1 0) ∧ hasDev D x.toNat u))] (sX10_passesAll (A := ((0 ≤ x ∧ x < D 1 0) ∧ 0 ≤ y ∧ y < D 1 0)) (B := (¬ x = y)) (C := (((0 ≤ x ∧ x < D 1 0) ∧ 0 ≤ y ∧ y < D 1 0) ∧ hasDev D x.toNat u)) hfl hz ) dX10_transferDevice_56 (by decide) rfl cw_RX10_462 okX10_passesAll rfl (Nat.le_of_ble_eq_true rfl) ⟨Nat.le_of_ble_eq_true rfl, Nat.le_of_ble_eq_true rfl, Nat.le_of_ble_eq_true rfl, Nat.le_of_ble_eq_true rfl⟩ ?_
          refine zy_cvR [zi (zb (((0 ≤ x ∧ x < D 1 0) ∧ 0 ≤ y ∧ y < D 1 0) ∧ (¬ x = y) ∧ (((0 ≤ x ∧ x < D 1 0) ∧ 0 ≤ y ∧ y < D 1 0) ∧ hasDev D x.toNat u)))] (sX10_tried (A := (((0 ≤ x ∧ x < D 1 0) ∧ 0 ≤ y ∧ y < D 1 0) ∧ (¬ x = y) ∧ (((0 ≤ x ∧ x < D 1 0) ∧ 0 ≤ y ∧ y < D 1 0) ∧ hasDev D x.toNat u))) hfl (zOK_put hz (th3_r _ _ _)) (⟨hw, hw2, hw, hw3⟩ : ((0 ≤ x ∧ x < D 1 0) ∧ 0 ≤ y ∧ y < D 1 0) ∧ (¬ x = y) ∧ (((0 ≤ x ∧ x < D 1 0) ∧ 0 ≤ y ∧ y < D 1 0) ∧ hasDev D x.toNat u))) dX10_transferDevice_59 (by decide) rfl cw_RX10_449 okX10_tried rfl (Nat.le_of_ble_eq_true rfl) ⟨Nat.le_of_ble_eq_true rfl, Nat.le_of_ble_eq_true rfl, Nat.le_of_ble_eq_true rfl, Nat.le_of_ble_eq_true rfl⟩ (fun τ59 hr59 => ?_)
          have hz59 : zOK τ59 := hr59.1
          have hRt : Rel D (τ59.1 262) := mfr_R (mfr_cpo hr59.2 (by decide)) (by decide) (Rel_put (by decide) hR)
          have h5t : 0 ≤ τ59.1 261 5 ∧ τ59.1 261 5 ≤ 8 := by rw [hr59.2.1 261 (by decide), zput_i _ _ _ _ _ (by decide)]; exact hm5
          refine zx_if_eq (tgt := 79) (by first | exact hz59 _ _ | assumption | exact zr_b _ | exact zcmp_r _ _ | (unfold zr at *; omega)) dX10_transferDevice_62 (by decide) (fun h62 => ?_) (fun h62 => ?_)
          · have h62 := zb_0.mp h62
            exact absurd (⟨hw, hw2, hw, hw3⟩ : ((0 ≤ x ∧ x < D 1 0) ∧ 0 ≤ y ∧ y < D 1 0) ∧ (¬ x = y) ∧ (((0 ≤ x ∧ x < D 1 0) ∧ 0 ≤ y ∧ y < D 1 0) ∧ hasDev D x.toNat u)) (by assumption)
          · have h62 := zb_n.mp h62
            refine zx_aloadN dX10_transferDevice_65 rfl rfl ?_
            refine zx_aloadN dX10_transferDevice_66 rfl rfl ?_
            refine zx_iloadN dX10_transferDevice_67 rfl rfl ?_
            refine zx_iloadN dX10_transferDevice_68 rfl rfl ?_
            refine zx_iloadN dX10_transferDevice_69 rfl rfl ?_
            refine zy_cvR [zi x, zi y, zi u] (sX10_lendNow (D := D) hfl hz59 (by first | assumption | omega) hRt (by first | exact hz59 _ _ | assumption | exact zr_b _ | exact zcmp_r _ _ | (unfold zr at *; omega)) (by first | exact hz59 _ _ | assumption | exact zr_b _ | exact zcmp_r _ _ | (unfold zr at *; omega)) (by first | exact hz59 _ _ | assumption | exact zr_b _ | exact zcmp_r _ _ | (unfold zr at *; omega)) hw ⟨hw2, hw3⟩) dX10_transferDevice_70 (by decide) rfl cw_RX10_384 okX10_lendNow rfl (Nat.le_of_ble_eq_true rfl) ⟨Nat.le_of_ble_eq_true rfl, Nat.le_of_ble_eq_true rfl, Nat.le_of_ble_eq_true rfl, Nat.le_of_ble_eq_true rfl⟩ (fun τ70 hr70 => ?_)
            have hz70 : zOK τ70 := hr70.1
            have h5n : 0 ≤ τ70.1 261 5 ∧ τ70.1 261 5 ≤ 8 := by rw [hr70.2.1.2.1 5 (by omega)]; exact h5t
            refine zy_cvR [zi (zb True)] (sX10_done (A := True) hfl hz70 h5n) dX10_transferDevice_73 (by decide) rfl cw_RX10_452 okX10_done rfl (Nat.le_of_ble_eq_true rfl) ⟨Nat.le_of_ble_eq_true rfl, Nat.le_of_ble_eq_true rfl, Nat.le_of_ble_eq_true rfl, Nat.le_of_ble_eq_true rfl⟩ (fun τ73 hr73 => ?_)
            have hz73 : zOK τ73 := hr73.1
            refine zx_goto (tgt := 80) dX10_transferDevice_76 (by decide) ?_
            refine zx_iret rfl rfl dX10_transferDevice_80 ?_
            rw [hQ]
            refine ⟨congrArg (fun z : Int => (Sum.inl (some (zi z)) : Option zV ⊕ String)) ?_, ?_⟩
            · exact hr70.2.2.2
            have ht : mfr (zput σ 261 6 (th3 ((0 ≤ x ∧ x < D 1 0) ∧ 0 ≤ y ∧ y < D 1 0) (¬ x = y) (((0 ≤ x ∧ x < D 1 0) ∧ 0 ≤ y ∧ y < D 1 0) ∧ hasDev D x.toNat u))) τ59 (fun k => k = 264) (fun _ => False) := mfr_cpo hr59.2 (by decide)
            have mB : mfr σ (zput σ 261 6 (th3 ((0 ≤ x ∧ x < D 1 0) ∧ 0 ≤ y ∧ y < D 1 0) (¬ x = y) (((0 ≤ x ∧ x < D 1 0) ∧ 0 ≤ y ∧ y < D 1 0) ∧ hasDev D x.toNat u))) (fun _ => False) (fun i => i = 6) := mfr_mo (mfr_put261 (mfr_rf σ (fun _ => False) (fun _ => False))) (fun k q => q) (fun i q => by rcases q with q | q; exact absurd q id; exact q)
            have m1 : mfr σ τ59 mA mF := mfr_tr mB ht (fun k q => by rcases q with q | q; exact absurd q id; exact Or.inr (Or.inl q)) (fun i q => by rcases q with q | q; exact Or.inr (Or.inl q); exact absurd q id)
            have m2 : mfr σ τ70 mA mF := mfr_tr m1 hr70.2.1 (fun k q => by unfold mA at *; omega) (fun i q => by unfold mF at *; omega)
            have m3 : mfr σ τ73 mA mF := mfr_tr m2 hr73.2.1 (fun k q => by unfold mA at *; omega) (fun i q => by unfold mF at *; omega)
            have h264 : ∀ j, j < 380 → τ70.1 264 j = σ.1 262 j := fun j hj => by
              rw [hr70.2.1.1 264 (by omega) (by omega) j]
              have := hr59.2.2.2.1 j hj
              rw [Nat.zero_add] at this
              rw [this]; exact zput_k _ _ _ _ _ (by omega)
            have h266 : ∀ j, τ70.1 266 j = σ.1 266 j := fun j => by
              rw [hr70.2.1.1 266 (by omega) (by omega) j, ht.1 266 (by omega) (by omega) j]; exact zput_k _ _ _ _ _ (by omega)
            have h65 : τ70.1 261 5 = σ.1 261 5 := by
              rw [hr70.2.1.2.1 5 (by omega), ht.2.1 5 (fun q => q)]; exact zput_i _ _ _ _ _ (by omega)
            have h66 : τ73.1 261 6 = 0 := by
              rw [hr73.2.1.2.1 6 (by omega), hr70.2.1.2.1 6 (by omega), ht.2.1 6 (fun q => q)]; exact (zput_s _ _ _ _).trans (th3_0 hw hw2 ⟨hw, hw3⟩)
            exact ⟨hz73, m3, mfr_R hr73.2.1 (by omega) hr70.2.2.1, MPu_to hr73.2.2 h65 h266 h264, h66⟩
        · have h39 := zb_n.mp h39
          refine zx_aloadN dX10_transferDevice_42 rfl rfl ?_
          refine zx_iloadN dX10_transferDevice_43 rfl rfl ?_
          refine zy_top (b := ((x.toNat : Nat) : Int)) (by omega) ?_
          refine zx_iloadN dX10_transferDevice_44 rfl rfl ?_
          refine zy_cv [zi ((x.toNat : Nat) : Int), zi u] (sX10_ownsDevice (D := D) (p := x.toNat) hfl hz (by first | assumption | omega) (by first | assumption | (refine Rel_put (by decide) ?_; assumption) | (refine Rel_put (by decide) (Rel_put (by decide) ?_); assumption) | (refine Rel_put (by decide) (Rel_put (by decide) (Rel_put (by decide) ?_)); assumption)) (by first | assumption | omega) (by first | exact hz _ _ | assumption | exact zr_b _ | exact zcmp_r _ _ | (unfold zr at *; omega))) dX10_transferDevice_45 (by decide) rfl cw_RX10_90 okX10_ownsDevice rfl (Nat.le_of_ble_eq_true rfl) ⟨Nat.le_of_ble_eq_true rfl, Nat.le_of_ble_eq_true rfl, Nat.le_of_ble_eq_true rfl, Nat.le_of_ble_eq_true rfl⟩ ?_
          refine zx_if_eq (tgt := 55) (by first | exact hz _ _ | assumption | exact zr_b _ | exact zcmp_r _ _ | (unfold zr at *; omega)) dX10_transferDevice_48 (by decide) (fun h48 => ?_) (fun h48 => ?_)
          · have h48 := zb_0.mp h48
            refine zx_iconst dX10_transferDevice_55 ?_
            refine zy_top (b := zb (((0 ≤ x ∧ x < D 1 0) ∧ 0 ≤ y ∧ y < D 1 0) ∧ hasDev D x.toNat u)) (by first | exact (zb_t (by exact ⟨by assumption, by assumption⟩)).symm | exact (zb_f (fun q => absurd q.1 (by assumption))).symm | exact (zb_f (fun q => absurd q.2 (by assumption))).symm) ?_
            refine zy_cv [zi (zb ((0 ≤ x ∧ x < D 1 0) ∧ 0 ≤ y ∧ y < D 1 0)), zi (zb (¬ x = y)), zi (zb (((0 ≤ x ∧ x < D 1 0) ∧ 0 ≤ y ∧ y < D 1 0) ∧ hasDev D x.toNat u))] (sX10_passesAll (A := ((0 ≤ x ∧ x < D 1 0) ∧ 0 ≤ y ∧ y < D 1 0)) (B := (¬ x = y)) (C := (((0 ≤ x ∧ x < D 1 0) ∧ 0 ≤ y ∧ y < D 1 0) ∧ hasDev D x.toNat u)) hfl hz ) dX10_transferDevice_56 (by decide) rfl cw_RX10_462 okX10_passesAll rfl (Nat.le_of_ble_eq_true rfl) ⟨Nat.le_of_ble_eq_true rfl, Nat.le_of_ble_eq_true rfl, Nat.le_of_ble_eq_true rfl, Nat.le_of_ble_eq_true rfl⟩ ?_
            refine zy_cvR [zi (zb (((0 ≤ x ∧ x < D 1 0) ∧ 0 ≤ y ∧ y < D 1 0) ∧ (¬ x = y) ∧ (((0 ≤ x ∧ x < D 1 0) ∧ 0 ≤ y ∧ y < D 1 0) ∧ hasDev D x.toNat u)))] (sX10_tried (A := (((0 ≤ x ∧ x < D 1 0) ∧ 0 ≤ y ∧ y < D 1 0) ∧ (¬ x = y) ∧ (((0 ≤ x ∧ x < D 1 0) ∧ 0 ≤ y ∧ y < D 1 0) ∧ hasDev D x.toNat u))) hfl (zOK_put hz (th3_r _ _ _)) (⟨hw, hw2, hw, hw3⟩ : ((0 ≤ x ∧ x < D 1 0) ∧ 0 ≤ y ∧ y < D 1 0) ∧ (¬ x = y) ∧ (((0 ≤ x ∧ x < D 1 0) ∧ 0 ≤ y ∧ y < D 1 0) ∧ hasDev D x.toNat u))) dX10_transferDevice_59 (by decide) rfl cw_RX10_449 okX10_tried rfl (Nat.le_of_ble_eq_true rfl) ⟨Nat.le_of_ble_eq_true rfl, Nat.le_of_ble_eq_true rfl, Nat.le_of_ble_eq_true rfl, Nat.le_of_ble_eq_true rfl⟩ (fun τ59 hr59 => ?_)
            have hz59 : zOK τ59 := hr59.1
            have hRt : Rel D (τ59.1 262) := mfr_R (mfr_cpo hr59.2 (by decide)) (by decide) (Rel_put (by decide) hR)
            have h5t : 0 ≤ τ59.1 261 5 ∧ τ59.1 261 5 ≤ 8 := by rw [hr59.2.1 261 (by decide), zput_i _ _ _ _ _ (by decide)]; exact hm5
            refine zx_if_eq (tgt := 79) (by first | exact hz59 _ _ | assumption | exact zr_b _ | exact zcmp_r _ _ | (unfold zr at *; omega)) dX10_transferDevice_62 (by decide) (fun h62 => ?_) (fun h62 => ?_)
            · have h62 := zb_0.mp h62
              exact absurd (⟨hw, hw2, hw, hw3⟩ : ((0 ≤ x ∧ x < D 1 0) ∧ 0 ≤ y ∧ y < D 1 0) ∧ (¬ x = y) ∧ (((0 ≤ x ∧ x < D 1 0) ∧ 0 ≤ y ∧ y < D 1 0) ∧ hasDev D x.toNat u)) (by assumption)
            · have h62 := zb_n.mp h62
              refine zx_aloadN dX10_transferDevice_65 rfl rfl ?_
              refine zx_aloadN dX10_transferDevice_66 rfl rfl ?_
              refine zx_iloadN dX10_transferDevice_67 rfl rfl ?_
              refine zx_iloadN dX10_transferDevice_68 rfl rfl ?_
              refine zx_iloadN dX10_transferDevice_69 rfl rfl ?_
              refine zy_cvR [zi x, zi y, zi u] (sX10_lendNow (D := D) hfl hz59 (by first | assumption | omega) hRt (by first | exact hz59 _ _ | assumption | exact zr_b _ | exact zcmp_r _ _ | (unfold zr at *; omega)) (by first | exact hz59 _ _ | assumption | exact zr_b _ | exact zcmp_r _ _ | (unfold zr at *; omega)) (by first | exact hz59 _ _ | assumption | exact zr_b _ | exact zcmp_r _ _ | (unfold zr at *; omega)) hw ⟨hw2, hw3⟩) dX10_transferDevice_70 (by decide) rfl cw_RX10_384 okX10_lendNow rfl (Nat.le_of_ble_eq_true rfl) ⟨Nat.le_of_ble_eq_true rfl, Nat.le_of_ble_eq_true rfl, Nat.le_of_ble_eq_true rfl, Nat.le_of_ble_eq_true rfl⟩ (fun τ70 hr70 => ?_)
              have hz70 : zOK τ70 := hr70.1
              have h5n : 0 ≤ τ70.1 261 5 ∧ τ70.1 261 5 ≤ 8 := by rw [hr70.2.1.2.1 5 (by omega)]; exact h5t
              refine zy_cvR [zi (zb True)] (sX10_done (A := True) hfl hz70 h5n) dX10_transferDevice_73 (by decide) rfl cw_RX10_452 okX10_done rfl (Nat.le_of_ble_eq_true rfl) ⟨Nat.le_of_ble_eq_true rfl, Nat.le_of_ble_eq_true rfl, Nat.le_of_ble_eq_true rfl, Nat.le_of_ble_eq_true rfl⟩ (fun τ73 hr73 => ?_)
              have hz73 : zOK τ73 := hr73.1
              refine zx_goto (tgt := 80) dX10_transferDevice_76 (by decide) ?_
              refine zx_iret rfl rfl dX10_transferDevice_80 ?_
              rw [hQ]
              refine ⟨congrArg (fun z : Int => (Sum.inl (some (zi z)) : Option zV ⊕ String)) ?_, ?_⟩
              · exact hr70.2.2.2
              have ht : mfr (zput σ 261 6 (th3 ((0 ≤ x ∧ x < D 1 0) ∧ 0 ≤ y ∧ y < D 1 0) (¬ x = y) (((0 ≤ x ∧ x < D 1 0) ∧ 0 ≤ y ∧ y < D 1 0) ∧ hasDev D x.toNat u))) τ59 (fun k => k = 264) (fun _ => False) := mfr_cpo hr59.2 (by decide)
              have mB : mfr σ (zput σ 261 6 (th3 ((0 ≤ x ∧ x < D 1 0) ∧ 0 ≤ y ∧ y < D 1 0) (¬ x = y) (((0 ≤ x ∧ x < D 1 0) ∧ 0 ≤ y ∧ y < D 1 0) ∧ hasDev D x.toNat u))) (fun _ => False) (fun i => i = 6) := mfr_mo (mfr_put261 (mfr_rf σ (fun _ => False) (fun _ => False))) (fun k q => q) (fun i q => by rcases q with q | q; exact absurd q id; exact q)
              have m1 : mfr σ τ59 mA mF := mfr_tr mB ht (fun k q => by rcases q with q | q; exact absurd q id; exact Or.inr (Or.inl q)) (fun i q => by rcases q with q | q; exact Or.inr (Or.inl q); exact absurd q id)
              have m2 : mfr σ τ70 mA mF := mfr_tr m1 hr70.2.1 (fun k q => by unfold mA at *; omega) (fun i q => by unfold mF at *; omega)
              have m3 : mfr σ τ73 mA mF := mfr_tr m2 hr73.2.1 (fun k q => by unfold mA at *; omega) (fun i q => by unfold mF at *; omega)
              have h264 : ∀ j, j < 380 → τ70.1 264 j = σ.1 262 j := fun j hj => by
                rw [hr70.2.1.1 264 (by omega) (by omega) j]
                have := hr59.2.2.2.1 j hj
                rw [Nat.zero_add] at this
                rw [this]; exact zput_k _ _ _ _ _ (by omega)
              have h266 : ∀ j, τ70.1 266 j = σ.1 266 j := fun j => by
                rw [hr70.2.1.1 266 (by omega) (by omega) j, ht.1 266 (by omega) (by omega) j]; exact zput_k _ _ _ _ _ (by omega)
              have h65 : τ70.1 261 5 = σ.1 261 5 := by
                rw [hr70.2.1.2.1 5 (by omega), ht.2.1 5 (fun q => q)]; exact zput_i _ _ _ _ _ (by omega)
              have h66 : τ73.1 261 6 = 0 := by
                rw [hr73.2.1.2.1 6 (by omega), hr70.2.1.2.1 6 (by omega), ht.2.1 6 (fun q => q)]; exact (zput_s _ _ _ _).trans (th3_0 hw hw2 ⟨hw, hw3⟩)
              exact ⟨hz73, m3, mfr_R hr73.2.1 (by omega) hr70.2.2.1, MPu_to hr73.2.2 h65 h266 h264, h66⟩
          · have h48 := zb_n.mp h48
            refine zx_iconst dX10_transferDevice_51 ?_
            refine zx_goto (tgt := 56) dX10_transferDevice_52 (by decide) ?_
            refine zy_top (b := zb (((0 ≤ x ∧ x < D 1 0) ∧ 0 ≤ y ∧ y < D 1 0) ∧ hasDev D x.toNat u)) (by first | exact (zb_t (by exact ⟨by assumption, by assumption⟩)).symm | exact (zb_f (fun q => absurd q.1 (by assumption))).symm | exact (zb_f (fun q => absurd q.2 (by assumption))).symm) ?_
            refine zy_cv [zi (zb ((0 ≤ x ∧ x < D 1 0) ∧ 0 ≤ y ∧ y < D 1 0)), zi (zb (¬ x = y)), zi (zb (((0 ≤ x ∧ x < D 1 0) ∧ 0 ≤ y ∧ y < D 1 0) ∧ hasDev D x.toNat u))] (sX10_passesAll (A := ((0 ≤ x ∧ x < D 1 0) ∧ 0 ≤ y ∧ y < D 1 0)) (B := (¬ x = y)) (C := (((0 ≤ x ∧ x < D 1 0) ∧ 0 ≤ y ∧ y < D 1 0) ∧ hasDev D x.toNat u)) hfl hz ) dX10_transferDevice_56 (by decide) rfl cw_RX10_462 okX10_passesAll rfl (Nat.le_of_ble_eq_true rfl) ⟨Nat.le_of_ble_eq_true rfl, Nat.le_of_ble_eq_true rfl, Nat.le_of_ble_eq_true rfl, Nat.le_of_ble_eq_true rfl⟩ ?_
            refine zy_cvR [zi (zb (((0 ≤ x ∧ x < D 1 0) ∧ 0 ≤ y ∧ y < D 1 0) ∧ (¬ x = y) ∧ (((0 ≤ x ∧ x < D 1 0) ∧ 0 ≤ y ∧ y < D 1 0) ∧ hasDev D x.toNat u)))] (sX10_tried (A := (((0 ≤ x ∧ x < D 1 0) ∧ 0 ≤ y ∧ y < D 1 0) ∧ (¬ x = y) ∧ (((0 ≤ x ∧ x < D 1 0) ∧ 0 ≤ y ∧ y < D 1 0) ∧ hasDev D x.toNat u))) hfl (zOK_put hz (th3_r _ _ _)) (⟨hw, hw2, hw, hw3⟩ : ((0 ≤ x ∧ x < D 1 0) ∧ 0 ≤ y ∧ y < D 1 0) ∧ (¬ x = y) ∧ (((0 ≤ x ∧ x < D 1 0) ∧ 0 ≤ y ∧ y < D 1 0) ∧ hasDev D x.toNat u))) dX10_transferDevice_59 (by decide) rfl cw_RX10_449 okX10_tried rfl (Nat.le_of_ble_eq_true rfl) ⟨Nat.le_of_ble_eq_true rfl, Nat.le_of_ble_eq_true rfl, Nat.le_of_ble_eq_true rfl, Nat.le_of_ble_eq_true rfl⟩ (fun τ59 hr59 => ?_)
            have hz59 : zOK τ59 := hr59.1
            have hRt : Rel D (τ59.1 262) := mfr_R (mfr_cpo hr59.2 (by decide)) (by decide) (Rel_put (by decide) hR)
            have h5t : 0 ≤ τ59.1 261 5 ∧ τ59.1 261 5 ≤ 8 := by rw [hr59.2.1 261 (by decide), zput_i _ _ _ _ _ (by decide)]; exact hm5
            refine zx_if_eq (tgt := 79) (by first | exact hz59 _ _ | assumption | exact zr_b _ | exact zcmp_r _ _ | (unfold zr at *; omega)) dX10_transferDevice_62 (by decide) (fun h62 => ?_) (fun h62 => ?_)
            · have h62 := zb_0.mp h62
              exact absurd (⟨hw, hw2, hw, hw3⟩ : ((0 ≤ x ∧ x < D 1 0) ∧ 0 ≤ y ∧ y < D 1 0) ∧ (¬ x = y) ∧ (((0 ≤ x ∧ x < D 1 0) ∧ 0 ≤ y ∧ y < D 1 0) ∧ hasDev D x.toNat u)) (by assumption)
            · have h62 := zb_n.mp h62
              refine zx_aloadN dX10_transferDevice_65 rfl rfl ?_
              refine zx_aloadN dX10_transferDevice_66 rfl rfl ?_
              refine zx_iloadN dX10_transferDevice_67 rfl rfl ?_
              refine zx_iloadN dX10_transferDevice_68 rfl rfl ?_
              refine zx_iloadN dX10_transferDevice_69 rfl rfl ?_
              refine zy_cvR [zi x, zi y, zi u] (sX10_lendNow (D := D) hfl hz59 (by first | assumption | omega) hRt (by first | exact hz59 _ _ | assumption | exact zr_b _ | exact zcmp_r _ _ | (unfold zr at *; omega)) (by first | exact hz59 _ _ | assumption | exact zr_b _ | exact zcmp_r _ _ | (unfold zr at *; omega)) (by first | exact hz59 _ _ | assumption | exact zr_b _ | exact zcmp_r _ _ | (unfold zr at *; omega)) hw ⟨hw2, hw3⟩) dX10_transferDevice_70 (by decide) rfl cw_RX10_384 okX10_lendNow rfl (Nat.le_of_ble_eq_true rfl) ⟨Nat.le_of_ble_eq_true rfl, Nat.le_of_ble_eq_true rfl, Nat.le_of_ble_eq_true rfl, Nat.le_of_ble_eq_true rfl⟩ (fun τ70 hr70 => ?_)
              have hz70 : zOK τ70 := hr70.1
              have h5n : 0 ≤ τ70.1 261 5 ∧ τ70.1 261 5 ≤ 8 := by rw [hr70.2.1.2.1 5 (by omega)]; exact h5t
              refine zy_cvR [zi (zb True)] (sX10_done (A := True) hfl hz70 h5n) dX10_transferDevice_73 (by decide) rfl cw_RX10_452 okX10_done rfl (Nat.le_of_ble_eq_true rfl) ⟨Nat.le_of_ble_eq_true rfl, Nat.le_of_ble_eq_true rfl, Nat.le_of_ble_eq_true rfl, Nat.le_of_ble_eq_true rfl⟩ (fun τ73 hr73 => ?_)
              have hz73 : zOK τ73 := hr73.1
              refine zx_goto (tgt := 80) dX10_transferDevice_76 (by decide) ?_
              refine zx_iret rfl rfl dX10_transferDevice_80 ?_
              rw [hQ]
              refine ⟨congrArg (fun z : Int => (Sum.inl (some (zi z)) : Option zV ⊕ String)) ?_, ?_⟩
              · exact hr70.2.2.2
              have ht : mfr (zput σ 261 6 (th3 ((0 ≤ x ∧ x < D 1 0) ∧ 0 ≤ y ∧ y < D 1 0) (¬ x = y) (((0 ≤ x ∧ x < D 1 0) ∧ 0 ≤ y ∧ y < D 1 0) ∧ hasDev D x.toNat u))) τ59 (fun k => k = 264) (fun _ => False) := mfr_cpo hr59.2 (by decide)
              have mB : mfr σ (zput σ 261 6 (th3 ((0 ≤ x ∧ x < D 1 0) ∧ 0 ≤ y ∧ y < D 1 0) (¬ x = y) (((0 ≤ x ∧ x < D 1 0) ∧ 0 ≤ y ∧ y < D 1 0) ∧ hasDev D x.toNat u))) (fun _ => False) (fun i => i = 6) := mfr_mo (mfr_put261 (mfr_rf σ (fun _ => False) (fun _ => False))) (fun k q => q) (fun i q => by rcases q with q | q; exact absurd q id; exact q)
              have m1 : mfr σ τ59 mA mF := mfr_tr mB ht (fun k q => by rcases q with q | q; exact absurd q id; exact Or.inr (Or.inl q)) (fun i q => by rcases q with q | q; exact Or.inr (Or.inl q); exact absurd q id)
              have m2 : mfr σ τ70 mA mF := mfr_tr m1 hr70.2.1 (fun k q => by unfold mA at *; omega) (fun i q => by unfold mF at *; omega)
              have m3 : mfr σ τ73 mA mF := mfr_tr m2 hr73.2.1 (fun k q => by unfold mA at *; omega) (fun i q => by unfold mF at *; omega)
              have h264 : ∀ j, j < 380 → τ70.1 264 j = σ.1 262 j := fun j hj => by
                rw [hr70.2.1.1 264 (by omega) (by omega) j]
                have := hr59.2.2.2.1 j hj
                rw [Nat.zero_add] at this
                rw [this]; exact zput_k _ _ _ _ _ (by omega)
              have h266 : ∀ j, τ70.1 266 j = σ.1 266 j := fun j => by
                rw [hr70.2.1.1 266 (by omega) (by omega) j, ht.1 266 (by omega) (by omega) j]; exact zput_k _ _ _ _ _ (by omega)
              have h65 : τ70.1 261 5 = σ.1 261 5 := by
                rw [hr70.2.1.2.1 5 (by omega), ht.2.1 5 (fun q => q)]; exact zput_i _ _ _ _ _ (by omega)
              have h66 : τ73.1 261 6 = 0 := by
                rw [hr73.2.1.2.1 6 (by omega), hr70.2.1.2.1 6 (by omega), ht.2.1 6 (fun q => q)]; exact (zput_s _ _ _ _).trans (th3_0 hw hw2 ⟨hw, hw3⟩)
              exact ⟨hz73, m3, mfr_R hr73.2.1 (by omega) hr70.2.2.1, MPu_to hr73.2.2 h65 h266 h264, h66⟩
    · have h13 := zb_n.mp h13
      refine zx_iconst dX10_transferDevice_16 ?_
      refine zx_goto (tgt := 21) dX10_transferDevice_17 (by decide) ?_
      refine zy_top (b := zb ((0 ≤ x ∧ x < D 1 0) ∧ 0 ≤ y ∧ y < D 1 0)) (by first | exact (zb_t (by exact ⟨by assumption, by assumption⟩)).symm | exact (zb_f (fun q => absurd q.1 (by assumption))).symm | exact (zb_f (fun q => absurd q.2 (by assumption))).symm) ?_
      refine zy_istore [zf 10 261, zi x, zi y, zi u, zi (zb ((0 ≤ x ∧ x < D 1 0) ∧ 0 ≤ y ∧ y < D 1 0))] dX10_transferDevice_21 (Nat.le_of_ble_eq_true rfl) (Nat.le_of_ble_eq_true rfl) rfl rfl ?_
      refine zx_aloadN dX10_transferDevice_23 rfl rfl ?_
      refine zx_aloadN dX10_transferDevice_24 rfl rfl ?_
      refine zx_iload dX10_transferDevice_25 rfl ?_
      refine zx_iloadN dX10_transferDevice_27 rfl rfl ?_
      refine zx_iloadN dX10_transferDevice_28 rfl rfl ?_
      refine zx_icmp_eq (tgt := 36) (by first | exact hz _ _ | assumption | exact zr_b _ | exact zcmp_r _ _ | (unfold zr at *; omega)) (by first | exact hz _ _ | assumption | exact zr_b _ | exact zcmp_r _ _ | (unfold zr at *; omega)) dX10_transferDevice_29 (by decide) (fun h29 => ?_) (fun h29 => ?_)
      · refine zx_iconst dX10_transferDevice_36 ?_
        refine zy_top (b := zb (¬ x = y)) (by first | exact (zb_t (by assumption)).symm | exact (zb_t (by omega)).symm | exact (zb_f (by omega)).symm | exact (zb_f (by assumption)).symm | exact (zb_f (fun q => q (by assumption))).symm) ?_
        refine zx_iload dX10_transferDevice_37 rfl ?_
        refine zx_if_eq (tgt := 55) (by first | exact hz _ _ | assumption | exact zr_b _ | exact zcmp_r _ _ | (unfold zr at *; omega)) dX10_transferDevice_39 (by decide) (fun h39 => ?_) (fun h39 => ?_)
        · have h39 := zb_0.mp h39
          refine zx_iconst dX10_transferDevice_55 ?_
          refine zy_top (b := zb (((0 ≤ x ∧ x < D 1 0) ∧ 0 ≤ y ∧ y < D 1 0) ∧ hasDev D x.toNat u)) (by first | exact (zb_t (by exact ⟨by assumption, by assumption⟩)).symm | exact (zb_f (fun q => absurd q.1 (by assumption))).symm | exact (zb_f (fun q => absurd q.2 (by assumption))).symm) ?_
          refine zy_cv [zi (zb ((0 ≤ x ∧ x < D 1 0) ∧ 0 ≤ y ∧ y < D 1 0)), zi (zb (¬ x = y)), zi (zb (((0 ≤ x ∧ x < D 1 0) ∧ 0 ≤ y ∧ y < D 1 0) ∧ hasDev D x.toNat u))] (sX10_passesAll (A := ((0 ≤ x ∧ x < D 1 0) ∧ 0 ≤ y ∧ y < D 1 0)) (B := (¬ x = y)) (C := (((0 ≤ x ∧ x < D 1 0) ∧ 0 ≤ y ∧ y < D 1 0) ∧ hasDev D x.toNat u)) hfl hz ) dX10_transferDevice_56 (by decide) rfl cw_RX10_462 okX10_passesAll rfl (Nat.le_of_ble_eq_true rfl) ⟨Nat.le_of_ble_eq_true rfl, Nat.le_of_ble_eq_true rfl, Nat.le_of_ble_eq_true rfl, Nat.le_of_ble_eq_true rfl⟩ ?_
          refine zy_cvR [zi (zb (((0 ≤ x ∧ x < D 1 0) ∧ 0 ≤ y ∧ y < D 1 0) ∧ (¬ x = y) ∧ (((0 ≤ x ∧ x < D 1 0) ∧ 0 ≤ y ∧ y < D 1 0) ∧ hasDev D x.toNat u)))] (sX10_tried (A := (((0 ≤ x ∧ x < D 1 0) ∧ 0 ≤ y ∧ y < D 1 0) ∧ (¬ x = y) ∧ (((0 ≤ x ∧ x < D 1 0) ∧ 0 ≤ y ∧ y < D 1 0) ∧ hasDev D x.toNat u))) hfl (zOK_put hz (th3_r _ _ _)) (⟨hw, hw2, hw, hw3⟩ : ((0 ≤ x ∧ x < D 1 0) ∧ 0 ≤ y ∧ y < D 1 0) ∧ (¬ x = y) ∧ (((0 ≤ x ∧ x < D 1 0) ∧ 0 ≤ y ∧ y < D 1 0) ∧ hasDev D x.toNat u))) dX10_transferDevice_59 (by decide) rfl cw_RX10_449 okX10_tried rfl (Nat.le_of_ble_eq_true rfl) ⟨Nat.le_of_ble_eq_true rfl, Nat.le_of_ble_eq_true rfl, Nat.le_of_ble_eq_true rfl, Nat.le_of_ble_eq_true rfl⟩ (fun τ59 hr59 => ?_)
          have hz59 : zOK τ59 := hr59.1
          have hRt : Rel D (τ59.1 262) := mfr_R (mfr_cpo hr59.2 (by decide)) (by decide) (Rel_put (by decide) hR)
          have h5t : 0 ≤ τ59.1 261 5 ∧ τ59.1 261 5 ≤ 8 := by rw [hr59.2.1 261 (by decide), zput_i _ _ _ _ _ (by decide)]; exact hm5
          refine zx_if_eq (tgt := 79) (by first | exact hz59 _ _ | assumption | exact zr_b _ | exact zcmp_r _ _ | (unfold zr at *; omega)) dX10_transferDevice_62 (by decide) (fun h62 => ?_) (fun h62 => ?_)
          · have h62 := zb_0.mp h62
            exact absurd (⟨hw, hw2, hw, hw3⟩ : ((0 ≤ x ∧ x < D 1 0) ∧ 0 ≤ y ∧ y < D 1 0) ∧ (¬ x = y) ∧ (((0 ≤ x ∧ x < D 1 0) ∧ 0 ≤ y ∧ y < D 1 0) ∧ hasDev D x.toNat u)) (by assumption)
          · have h62 := zb_n.mp h62
            refine zx_aloadN dX10_transferDevice_65 rfl rfl ?_
            refine zx_aloadN dX10_transferDevice_66 rfl rfl ?_
            refine zx_iloadN dX10_transferDevice_67 rfl rfl ?_
            refine zx_iloadN dX10_transferDevice_68 rfl rfl ?_
            refine zx_iloadN dX10_transferDevice_69 rfl rfl ?_
            refine zy_cvR [zi x, zi y, zi u] (sX10_lendNow (D := D) hfl hz59 (by first | assumption | omega) hRt (by first | exact hz59 _ _ | assumption | exact zr_b _ | exact zcmp_r _ _ | (unfold zr at *; omega)) (by first | exact hz59 _ _ | assumption | exact zr_b _ | exact zcmp_r _ _ | (unfold zr at *; omega)) (by first | exact hz59 _ _ | assumption | exact zr_b _ | exact zcmp_r _ _ | (unfold zr at *; omega)) hw ⟨hw2, hw3⟩) dX10_transferDevice_70 (by decide) rfl cw_RX10_384 okX10_lendNow rfl (Nat.le_of_ble_eq_true rfl) ⟨Nat.le_of_ble_eq_true rfl, Nat.le_of_ble_eq_true rfl, Nat.le_of_ble_eq_true rfl, Nat.le_of_ble_eq_true rfl⟩ (fun τ70 hr70 => ?_)
            have hz70 : zOK τ70 := hr70.1
            have h5n : 0 ≤ τ70.1 261 5 ∧ τ70.1 261 5 ≤ 8 := by rw [hr70.2.1.2.1 5 (by omega)]; exact h5t
            refine zy_cvR [zi (zb True)] (sX10_done (A := True) hfl hz70 h5n) dX10_transferDevice_73 (by decide) rfl cw_RX10_452 okX10_done rfl (Nat.le_of_ble_eq_true rfl) ⟨Nat.le_of_ble_eq_true rfl, Nat.le_of_ble_eq_true rfl, Nat.le_of_ble_eq_true rfl, Nat.le_of_ble_eq_true rfl⟩ (fun τ73 hr73 => ?_)
            have hz73 : zOK τ73 := hr73.1
            refine zx_goto (tgt := 80) dX10_transferDevice_76 (by decide) ?_
            refine zx_iret rfl rfl dX10_transferDevice_80 ?_
            rw [hQ]
            refine ⟨congrArg (fun z : Int => (Sum.inl (some (zi z)) : Option zV ⊕ String)) ?_, ?_⟩
            · exact hr70.2.2.2
            have ht : mfr (zput σ 261 6 (th3 ((0 ≤ x ∧ x < D 1 0) ∧ 0 ≤ y ∧ y < D 1 0) (¬ x = y) (((0 ≤ x ∧ x < D 1 0) ∧ 0 ≤ y ∧ y < D 1 0) ∧ hasDev D x.toNat u))) τ59 (fun k => k = 264) (fun _ => False) := mfr_cpo hr59.2 (by decide)
            have mB : mfr σ (zput σ 261 6 (th3 ((0 ≤ x ∧ x < D 1 0) ∧ 0 ≤ y ∧ y < D 1 0) (¬ x = y) (((0 ≤ x ∧ x < D 1 0) ∧ 0 ≤ y ∧ y < D 1 0) ∧ hasDev D x.toNat u))) (fun _ => False) (fun i => i = 6) := mfr_mo (mfr_put261 (mfr_rf σ (fun _ => False) (fun _ => False))) (fun k q => q) (fun i q => by rcases q with q | q; exact absurd q id; exact q)
            have m1 : mfr σ τ59 mA mF := mfr_tr mB ht (fun k q => by rcases q with q | q; exact absurd q id; exact Or.inr (Or.inl q)) (fun i q => by rcases q with q | q; exact Or.inr (Or.inl q); exact absurd q id)
            have m2 : mfr σ τ70 mA mF := mfr_tr m1 hr70.2.1 (fun k q => by unfold mA at *; omega) (fun i q => by unfold mF at *; omega)
            have m3 : mfr σ τ73 mA mF := mfr_tr m2 hr73.2.1 (fun k q => by unfold mA at *; omega) (fun i q => by unfold mF at *; omega)
            have h264 : ∀ j, j < 380 → τ70.1 264 j = σ.1 262 j := fun j hj => by
              rw [hr70.2.1.1 264 (by omega) (by omega) j]
              have := hr59.2.2.2.1 j hj
              rw [Nat.zero_add] at this
              rw [this]; exact zput_k _ _ _ _ _ (by omega)
            have h266 : ∀ j, τ70.1 266 j = σ.1 266 j := fun j => by
              rw [hr70.2.1.1 266 (by omega) (by omega) j, ht.1 266 (by omega) (by omega) j]; exact zput_k _ _ _ _ _ (by omega)
            have h65 : τ70.1 261 5 = σ.1 261 5 := by
              rw [hr70.2.1.2.1 5 (by omega), ht.2.1 5 (fun q => q)]; exact zput_i _ _ _ _ _ (by omega)
            have h66 : τ73.1 261 6 = 0 := by
              rw [hr73.2.1.2.1 6 (by omega), hr70.2.1.2.1 6 (by omega), ht.2.1 6 (fun q => q)]; exact (zput_s _ _ _ _).trans (th3_0 hw hw2 ⟨hw, hw3⟩)
            exact ⟨hz73, m3, mfr_R hr73.2.1 (by omega) hr70.2.2.1, MPu_to hr73.2.2 h65 h266 h264, h66⟩
        · have h39 := zb_n.mp h39
          refine zx_aloadN dX10_transferDevice_42 rfl rfl ?_
          refine zx_iloadN dX10_transferDevice_43 rfl rfl ?_
          refine zy_top (b := ((x.toNat : Nat) : Int)) (by omega) ?_
          refine zx_iloadN dX10_transferDevice_44 rfl rfl ?_
          refine zy_cv [zi ((x.toNat : Nat) : Int), zi u] (sX10_ownsDevice (D := D) (p := x.toNat) hfl hz (by first | assumption | omega) (by first | assumption | (refine Rel_put (by decide) ?_; assumption) | (refine Rel_put (by decide) (Rel_put (by decide) ?_); assumption) | (refine Rel_put (by decide) (Rel_put (by decide) (Rel_put (by decide) ?_)); assumption)) (by first | assumption | omega) (by first | exact hz _ _ | assumption | exact zr_b _ | exact zcmp_r _ _ | (unfold zr at *; omega))) dX10_transferDevice_45 (by decide) rfl cw_RX10_90 okX10_ownsDevice rfl (Nat.le_of_ble_eq_true rfl) ⟨Nat.le_of_ble_eq_true rfl, Nat.le_of_ble_eq_true rfl, Nat.le_of_ble_eq_true rfl, Nat.le_of_ble_eq_true rfl⟩ ?_
          refine zx_if_eq (tgt := 55) (by first | exact hz _ _ | assumption | exact zr_b _ | exact zcmp_r _ _ | (unfold zr at *; omega)) dX10_transferDevice_48 (by decide) (fun h48 => ?_) (fun h48 => ?_)
          · have h48 := zb_0.mp h48
            refine zx_iconst dX10_transferDevice_55 ?_
            refine zy_top (b := zb (((0 ≤ x ∧ x < D 1 0) ∧ 0 ≤ y ∧ y < D 1 0) ∧ hasDev D x.toNat u)) (by first | exact (zb_t (by exact ⟨by assumption, by assumption⟩)).symm | exact (zb_f (fun q => absurd q.1 (by assumption))).symm | exact (zb_f (fun q => absurd q.2 (by assumption))).symm) ?_
            refine zy_cv [zi (zb ((0 ≤ x ∧ x < D 1 0) ∧ 0 ≤ y ∧ y < D 1 0)), zi (zb (¬ x = y)), zi (zb (((0 ≤ x ∧ x < D 1 0) ∧ 0 ≤ y ∧ y < D 1 0) ∧ hasDev D x.toNat u))] (sX10_passesAll (A := ((0 ≤ x ∧ x < D 1 0) ∧ 0 ≤ y ∧ y < D 1 0)) (B := (¬ x = y)) (C := (((0 ≤ x ∧ x < D 1 0) ∧ 0 ≤ y ∧ y < D 1 0) ∧ hasDev D x.toNat u)) hfl hz ) dX10_transferDevice_56 (by decide) rfl cw_RX10_462 okX10_passesAll rfl (Nat.le_of_ble_eq_true rfl) ⟨Nat.le_of_ble_eq_true rfl, Nat.le_of_ble_eq_true rfl, Nat.le_of_ble_eq_true rfl, Nat.le_of_ble_eq_true rfl⟩ ?_
            refine zy_cvR [zi (zb (((0 ≤ x ∧ x < D 1 0) ∧ 0 ≤ y ∧ y < D 1 0) ∧ (¬ x = y) ∧ (((0 ≤ x ∧ x < D 1 0) ∧ 0 ≤ y ∧ y < D 1 0) ∧ hasDev D x.toNat u)))] (sX10_tried (A := (((0 ≤ x ∧ x < D 1 0) ∧ 0 ≤ y ∧ y < D 1 0) ∧ (¬ x = y) ∧ (((0 ≤ x ∧ x < D 1 0) ∧ 0 ≤ y ∧ y < D 1 0) ∧ hasDev D x.toNat u))) hfl (zOK_put hz (th3_r _ _ _)) (⟨hw, hw2, hw, hw3⟩ : ((0 ≤ x ∧ x < D 1 0) ∧ 0 ≤ y ∧ y < D 1 0) ∧ (¬ x = y) ∧ (((0 ≤ x ∧ x < D 1 0) ∧ 0 ≤ y ∧ y < D 1 0) ∧ hasDev D x.toNat u))) dX10_transferDevice_59 (by decide) rfl cw_RX10_449 okX10_tried rfl (Nat.le_of_ble_eq_true rfl) ⟨Nat.le_of_ble_eq_true rfl, Nat.le_of_ble_eq_true rfl, Nat.le_of_ble_eq_true rfl, Nat.le_of_ble_eq_true rfl⟩ (fun τ59 hr59 => ?_)
            have hz59 : zOK τ59 := hr59.1
            have hRt : Rel D (τ59.1 262) := mfr_R (mfr_cpo hr59.2 (by decide)) (by decide) (Rel_put (by decide) hR)
            have h5t : 0 ≤ τ59.1 261 5 ∧ τ59.1 261 5 ≤ 8 := by rw [hr59.2.1 261 (by decide), zput_i _ _ _ _ _ (by decide)]; exact hm5
            refine zx_if_eq (tgt := 79) (by first | exact hz59 _ _ | assumption | exact zr_b _ | exact zcmp_r _ _ | (unfold zr at *; omega)) dX10_transferDevice_62 (by decide) (fun h62 => ?_) (fun h62 => ?_)
            · have h62 := zb_0.mp h62
              exact absurd (⟨hw, hw2, hw, hw3⟩ : ((0 ≤ x ∧ x < D 1 0) ∧ 0 ≤ y ∧ y < D 1 0) ∧ (¬ x = y) ∧ (((0 ≤ x ∧ x < D 1 0) ∧ 0 ≤ y ∧ y < D 1 0) ∧ hasDev D x.toNat u)) (by assumption)
            · have h62 := zb_n.mp h62
              refine zx_aloadN dX10_transferDevice_65 rfl rfl ?_
              refine zx_aloadN dX10_transferDevice_66 rfl rfl ?_
              refine zx_iloadN dX10_transferDevice_67 rfl rfl ?_
              refine zx_iloadN dX10_transferDevice_68 rfl rfl ?_
              refine zx_iloadN dX10_transferDevice_69 rfl rfl ?_
              refine zy_cvR [zi x, zi y, zi u] (sX10_lendNow (D := D) hfl hz59 (by first | assumption | omega) hRt (by first | exact hz59 _ _ | assumption | exact zr_b _ | exact zcmp_r _ _ | (unfold zr at *; omega)) (by first | exact hz59 _ _ | assumption | exact zr_b _ | exact zcmp_r _ _ | (unfold zr at *; omega)) (by first | exact hz59 _ _ | assumption | exact zr_b _ | exact zcmp_r _ _ | (unfold zr at *; omega)) hw ⟨hw2, hw3⟩) dX10_transferDevice_70 (by decide) rfl cw_RX10_384 okX10_lendNow rfl (Nat.le_of_ble_eq_true rfl) ⟨Nat.le_of_ble_eq_true rfl, Nat.le_of_ble_eq_true rfl, Nat.le_of_ble_eq_true rfl, Nat.le_of_ble_eq_true rfl⟩ (fun τ70 hr70 => ?_)
              have hz70 : zOK τ70 := hr70.1
              have h5n : 0 ≤ τ70.1 261 5 ∧ τ70.1 261 5 ≤ 8 := by rw [hr70.2.1.2.1 5 (by omega)]; exact h5t
              refine zy_cvR [zi (zb True)] (sX10_done (A := True) hfl hz70 h5n) dX10_transferDevice_73 (by decide) rfl cw_RX10_452 okX10_done rfl (Nat.le_of_ble_eq_true rfl) ⟨Nat.le_of_ble_eq_true rfl, Nat.le_of_ble_eq_true rfl, Nat.le_of_ble_eq_true rfl, Nat.le_of_ble_eq_true rfl⟩ (fun τ73 hr73 => ?_)
              have hz73 : zOK τ73 := hr73.1
              refine zx_goto (tgt := 80) dX10_transferDevice_76 (by decide) ?_
              refine zx_iret rfl rfl dX10_transferDevice_80 ?_
              rw [hQ]
              refine ⟨congrArg (fun z : Int => (Sum.inl (some (zi z)) : Option zV ⊕ String)) ?_, ?_⟩
              · exact hr70.2.2.2
              have ht : mfr (zput σ 261 6 (th3 ((0 ≤ x ∧ x < D 1 0) ∧ 0 ≤ y ∧ y < D 1 0) (¬ x = y) (((0 ≤ x ∧ x < D 1 0) ∧ 0 ≤ y ∧ y < D 1 0) ∧ hasDev D x.toNat u))) τ59 (fun k => k = 264) (fun _ => False) := mfr_cpo hr59.2 (by decide)
              have mB : mfr σ (zput σ 261 6 (th3 ((0 ≤ x ∧ x < D 1 0) ∧ 0 ≤ y ∧ y < D 1 0) (¬ x = y) (((0 ≤ x ∧ x < D 1 0) ∧ 0 ≤ y ∧ y < D 1 0) ∧ hasDev D x.toNat u))) (fun _ => False) (fun i => i = 6) := mfr_mo (mfr_put261 (mfr_rf σ (fun _ => False) (fun _ => False))) (fun k q => q) (fun i q => by rcases q with q | q; exact absurd q id; exact q)
              have m1 : mfr σ τ59 mA mF := mfr_tr mB ht (fun k q => by rcases q with q | q; exact absurd q id; exact Or.inr (Or.inl q)) (fun i q => by rcases q with q | q; exact Or.inr (Or.inl q); exact absurd q id)
              have m2 : mfr σ τ70 mA mF := mfr_tr m1 hr70.2.1 (fun k q => by unfold mA at *; omega) (fun i q => by unfold mF at *; omega)
              have m3 : mfr σ τ73 mA mF := mfr_tr m2 hr73.2.1 (fun k q => by unfold mA at *; omega) (fun i q => by unfold mF at *; omega)
              have h264 : ∀ j, j < 380 → τ70.1 264 j = σ.1 262 j := fun j hj => by
                rw [hr70.2.1.1 264 (by omega) (by omega) j]
                have := hr59.2.2.2.1 j hj
                rw [Nat.zero_add] at this
                rw [this]; exact zput_k _ _ _ _ _ (by omega)
              have h266 : ∀ j, τ70.1 266 j = σ.1 266 j := fun j => by
                rw [hr70.2.1.1 266 (by omega) (by omega) j, ht.1 266 (by omega) (by omega) j]; exact zput_k _ _ _ _ _ (by omega)
              have h65 : τ70.1 261 5 = σ.1 261 5 := by
                rw [hr70.2.1.2.1 5 (by omega), ht.2.1 5 (fun q => q)]; exact zput_i _ _ _ _ _ (by omega)
              have h66 : τ73.1 261 6 = 0 := by
                rw [hr73.2.1.2.1 6 (by omega), hr70.2.1.2.1 6 (by omega), ht.2.1 6 (fun q => q)]; exact (zput_s _ _ _ _).trans (th3_0 hw hw2 ⟨hw, hw3⟩)
              exact ⟨hz73, m3, mfr_R hr73.2.1 (by omega) hr70.2.2.1, MPu_to hr73.2.2 h65 h266 h264, h66⟩
          · have h48 := zb_n.mp h48
            refine zx_iconst dX10_transferDevice_51 ?_
            refine zx_goto (tgt := 56) dX10_transferDevice_52 (by decide) ?_
            refine zy_top (b := zb (((0 ≤ x ∧ x < D 1 0) ∧ 0 ≤ y ∧ y < D 1 0) ∧ hasDev D x.toNat u)) (by first | exact (zb_t (by exact ⟨by assumption, by assumption⟩)).symm | exact (zb_f (fun q => absurd q.1 (by assumption))).symm | exact (zb_f (fun q => absurd q.2 (by assumption))).symm) ?_
            refine zy_cv [zi (zb ((0 ≤ x ∧ x < D 1 0) ∧ 0 ≤ y ∧ y < D 1 0)), zi (zb (¬ x = y)), zi (zb (((0 ≤ x ∧ x < D 1 0) ∧ 0 ≤ y ∧ y < D 1 0) ∧ hasDev D x.toNat u))] (sX10_passesAll (A := ((0 ≤ x ∧ x < D 1 0) ∧ 0 ≤ y ∧ y < D 1 0)) (B := (¬ x = y)) (C := (((0 ≤ x ∧ x < D 1 0) ∧ 0 ≤ y ∧ y < D 1 0) ∧ hasDev D x.toNat u)) hfl hz ) dX10_transferDevice_56 (by decide) rfl cw_RX10_462 okX10_passesAll rfl (Nat.le_of_ble_eq_true rfl) ⟨Nat.le_of_ble_eq_true rfl, Nat.le_of_ble_eq_true rfl, Nat.le_of_ble_eq_true rfl, Nat.le_of_ble_eq_true rfl⟩ ?_
            refine zy_cvR [zi (zb (((0 ≤ x ∧ x < D 1 0) ∧ 0 ≤ y ∧ y < D 1 0) ∧ (¬ x = y) ∧ (((0 ≤ x ∧ x < D 1 0) ∧ 0 ≤ y ∧ y < D 1 0) ∧ hasDev D x.toNat u)))] (sX10_tried (A := (((0 ≤ x ∧ x < D 1 0) ∧ 0 ≤ y ∧ y < D 1 0) ∧ (¬ x = y) ∧ (((0 ≤ x ∧ x < D 1 0) ∧ 0 ≤ y ∧ y < D 1 0) ∧ hasDev D x.toNat u))) hfl (zOK_put hz (th3_r _ _ _)) (⟨hw, hw2, hw, hw3⟩ : ((0 ≤ x ∧ x < D 1 0) ∧ 0 ≤ y ∧ y < D 1 0) ∧ (¬ x = y) ∧ (((0 ≤ x ∧ x < D 1 0) ∧ 0 ≤ y ∧ y < D 1 0) ∧ hasDev D x.toNat u))) dX10_transferDevice_59 (by decide) rfl cw_RX10_449 okX10_tried rfl (Nat.le_of_ble_eq_true rfl) ⟨Nat.le_of_ble_eq_true rfl, Nat.le_of_ble_eq_true rfl, Nat.le_of_ble_eq_true rfl, Nat.le_of_ble_eq_true rfl⟩ (fun τ59 hr59 => ?_)
            have hz59 : zOK τ59 := hr59.1
            have hRt : Rel D (τ59.1 262) := mfr_R (mfr_cpo hr59.2 (by decide)) (by decide) (Rel_put (by decide) hR)
            have h5t : 0 ≤ τ59.1 261 5 ∧ τ59.1 261 5 ≤ 8 := by rw [hr59.2.1 261 (by decide), zput_i _ _ _ _ _ (by decide)]; exact hm5
            refine zx_if_eq (tgt := 79) (by first | exact hz59 _ _ | assumption | exact zr_b _ | exact zcmp_r _ _ | (unfold zr at *; omega)) dX10_transferDevice_62 (by decide) (fun h62 => ?_) (fun h62 => ?_)
            · have h62 := zb_0.mp h62
              exact absurd (⟨hw, hw2, hw, hw3⟩ : ((0 ≤ x ∧ x < D 1 0) ∧ 0 ≤ y ∧ y < D 1 0) ∧ (¬ x = y) ∧ (((0 ≤ x ∧ x < D 1 0) ∧ 0 ≤ y ∧ y < D 1 0) ∧ hasDev D x.toNat u)) (by assumption)
            · have h62 := zb_n.mp h62
              refine zx_aloadN dX10_transferDevice_65 rfl rfl ?_
              refine zx_aloadN dX10_transferDevice_66 rfl rfl ?_
              refine zx_iloadN dX10_transferDevice_67 rfl rfl ?_
              refine zx_iloadN dX10_transferDevice_68 rfl rfl ?_
              refine zx_iloadN dX10_transferDevice_69 rfl rfl ?_
              refine zy_cvR [zi x, zi y, zi u] (sX10_lendNow (D := D) hfl hz59 (by first | assumption | omega) hRt (by first | exact hz59 _ _ | assumption | exact zr_b _ | exact zcmp_r _ _ | (unfold zr at *; omega)) (by first | exact hz59 _ _ | assumption | exact zr_b _ | exact zcmp_r _ _ | (unfold zr at *; omega)) (by first | exact hz59 _ _ | assumption | exact zr_b _ | exact zcmp_r _ _ | (unfold zr at *; omega)) hw ⟨hw2, hw3⟩) dX10_transferDevice_70 (by decide) rfl cw_RX10_384 okX10_lendNow rfl (Nat.le_of_ble_eq_true rfl) ⟨Nat.le_of_ble_eq_true rfl, Nat.le_of_ble_eq_true rfl, Nat.le_of_ble_eq_true rfl, Nat.le_of_ble_eq_true rfl⟩ (fun τ70 hr70 => ?_)
              have hz70 : zOK τ70 := hr70.1
              have h5n : 0 ≤ τ70.1 261 5 ∧ τ70.1 261 5 ≤ 8 := by rw [hr70.2.1.2.1 5 (by omega)]; exact h5t
              refine zy_cvR [zi (zb True)] (sX10_done (A := True) hfl hz70 h5n) dX10_transferDevice_73 (by decide) rfl cw_RX10_452 okX10_done rfl (Nat.le_of_ble_eq_true rfl) ⟨Nat.le_of_ble_eq_true rfl, Nat.le_of_ble_eq_true rfl, Nat.le_of_ble_eq_true rfl, Nat.le_of_ble_eq_true rfl⟩ (fun τ73 hr73 => ?_)
              have hz73 : zOK τ73 := hr73.1
              refine zx_goto (tgt := 80) dX10_transferDevice_76 (by decide) ?_
              refine zx_iret rfl rfl dX10_transferDevice_80 ?_
              rw [hQ]
              refine ⟨congrArg (fun z : Int => (Sum.inl (some (zi z)) : Option zV ⊕ String)) ?_, ?_⟩
              · exact hr70.2.2.2
              have ht : mfr (zput σ 261 6 (th3 ((0 ≤ x ∧ x < D 1 0) ∧ 0 ≤ y ∧ y < D 1 0) (¬ x = y) (((0 ≤ x ∧ x < D 1 0) ∧ 0 ≤ y ∧ y < D 1 0) ∧ hasDev D x.toNat u))) τ59 (fun k => k = 264) (fun _ => False) := mfr_cpo hr59.2 (by decide)
              have mB : mfr σ (zput σ 261 6 (th3 ((0 ≤ x ∧ x < D 1 0) ∧ 0 ≤ y ∧ y < D 1 0) (¬ x = y) (((0 ≤ x ∧ x < D 1 0) ∧ 0 ≤ y ∧ y < D 1 0) ∧ hasDev D x.toNat u))) (fun _ => False) (fun i => i = 6) := mfr_mo (mfr_put261 (mfr_rf σ (fun _ => False) (fun _ => False))) (fun k q => q) (fun i q => by rcases q with q | q; exact absurd q id; exact q)
              have m1 : mfr σ τ59 mA mF := mfr_tr mB ht (fun k q => by rcases q with q | q; exact absurd q id; exact Or.inr (Or.inl q)) (fun i q => by rcases q with q | q; exact Or.inr (Or.inl q); exact absurd q id)
              have m2 : mfr σ τ70 mA mF := mfr_tr m1 hr70.2.1 (fun k q => by unfold mA at *; omega) (fun i q => by unfold mF at *; omega)
              have m3 : mfr σ τ73 mA mF := mfr_tr m2 hr73.2.1 (fun k q => by unfold mA at *; omega) (fun i q => by unfold mF at *; omega)
              have h264 : ∀ j, j < 380 → τ70.1 264 j = σ.1 262 j := fun j hj => by
                rw [hr70.2.1.1 264 (by omega) (by omega) j]
                have := hr59.2.2.2.1 j hj
                rw [Nat.zero_add] at this
                rw [this]; exact zput_k _ _ _ _ _ (by omega)
              have h266 : ∀ j, τ70.1 266 j = σ.1 266 j := fun j => by
                rw [hr70.2.1.1 266 (by omega) (by omega) j, ht.1 266 (by omega) (by omega) j]; exact zput_k _ _ _ _ _ (by omega)
              have h65 : τ70.1 261 5 = σ.1 261 5 := by
                rw [hr70.2.1.2.1 5 (by omega), ht.2.1 5 (fun q => q)]; exact zput_i _ _ _ _ _ (by omega)
              have h66 : τ73.1 261 6 = 0 := by
                rw [hr73.2.1.2.1 6 (by omega), hr70.2.1.2.1 6 (by omega), ht.2.1 6 (fun q => q)]; exact (zput_s _ _ _ _).trans (th3_0 hw hw2 ⟨hw, hw3⟩)
              exact ⟨hz73, m3, mfr_R hr73.2.1 (by omega) hr70.2.2.1, MPu_to hr73.2.2 h65 h266 h264, h66⟩
      · refine zx_iconst dX10_transferDevice_32 ?_
        refine zx_goto (tgt := 37) dX10_transferDevice_33 (by decide) ?_
        refine zy_top (b := zb (¬ x = y)) (by first | exact (zb_t (by assumption)).symm | exact (zb_t (by omega)).symm | exact (zb_f (by omega)).symm | exact (zb_f (by assumption)).symm | exact (zb_f (fun q => q (by assumption))).symm) ?_
        refine zx_iload dX10_transferDevice_37 rfl ?_
        refine zx_if_eq (tgt := 55) (by first | exact hz _ _ | assumption | exact zr_b _ | exact zcmp_r _ _ | (unfold zr at *; omega)) dX10_transferDevice_39 (by decide) (fun h39 => ?_) (fun h39 => ?_)
        · have h39 := zb_0.mp h39
          refine zx_iconst dX10_transferDevice_55 ?_
          refine zy_top (b := zb (((0 ≤ x ∧ x < D 1 0) ∧ 0 ≤ y ∧ y < D 1 0) ∧ hasDev D x.toNat u)) (by first | exact (zb_t (by exact ⟨by assumption, by assumption⟩)).symm | exact (zb_f (fun q => absurd q.1 (by assumption))).symm | exact (zb_f (fun q => absurd q.2 (by assumption))).symm) ?_
          refine zy_cv [zi (zb ((0 ≤ x ∧ x < D 1 0) ∧ 0 ≤ y ∧ y < D 1 0)), zi (zb (¬ x = y)), zi (zb (((0 ≤ x ∧ x < D 1 0) ∧ 0 ≤ y ∧ y < D 1 0) ∧ hasDev D x.toNat u))] (sX10_passesAll (A := ((0 ≤ x ∧ x < D 1 0) ∧ 0 ≤ y ∧ y < D 1 0)) (B := (¬ x = y)) (C := (((0 ≤ x ∧ x < D 1 0) ∧ 0 ≤ y ∧ y < D 1 0) ∧ hasDev D x.toNat u)) hfl hz ) dX10_transferDevice_56 (by decide) rfl cw_RX10_462 okX10_passesAll rfl (Nat.le_of_ble_eq_true rfl) ⟨Nat.le_of_ble_eq_true rfl, Nat.le_of_ble_eq_true rfl, Nat.le_of_ble_eq_true rfl, Nat.le_of_ble_eq_true rfl⟩ ?_
          refine zy_cvR [zi (zb (((0 ≤ x ∧ x < D 1 0) ∧ 0 ≤ y ∧ y < D 1 0) ∧ (¬ x = y) ∧ (((0 ≤ x ∧ x < D 1 0) ∧ 0 ≤ y ∧ y < D 1 0) ∧ hasDev D x.toNat u)))] (sX10_tried (A := (((0 ≤ x ∧ x < D 1 0) ∧ 0 ≤ y ∧ y < D 1 0) ∧ (¬ x = y) ∧ (((0 ≤ x ∧ x < D 1 0) ∧ 0 ≤ y ∧ y < D 1 0) ∧ hasDev D x.toNat u))) hfl (zOK_put hz (th3_r _ _ _)) (⟨hw, hw2, hw, hw3⟩ : ((0 ≤ x ∧ x < D 1 0) ∧ 0 ≤ y ∧ y < D 1 0) ∧ (¬ x = y) ∧ (((0 ≤ x ∧ x < D 1 0) ∧ 0 ≤ y ∧ y < D 1 0) ∧ hasDev D x.toNat u))) dX10_transferDevice_59 (by decide) rfl cw_RX10_449 okX10_tried rfl (Nat.le_of_ble_eq_true rfl) ⟨Nat.le_of_ble_eq_true rfl, Nat.le_of_ble_eq_true rfl, Nat.le_of_ble_eq_true rfl, Nat.le_of_ble_eq_true rfl⟩ (fun τ59 hr59 => ?_)
          have hz59 : zOK τ59 := hr59.1
          have hRt : Rel D (τ59.1 262) := mfr_R (mfr_cpo hr59.2 (by decide)) (by decide) (Rel_put (by decide) hR)
          have h5t : 0 ≤ τ59.1 261 5 ∧ τ59.1 261 5 ≤ 8 := by rw [hr59.2.1 261 (by decide), zput_i _ _ _ _ _ (by decide)]; exact hm5
          refine zx_if_eq (tgt := 79) (by first | exact hz59 _ _ | assumption | exact zr_b _ | exact zcmp_r _ _ | (unfold zr at *; omega)) dX10_transferDevice_62 (by decide) (fun h62 => ?_) (fun h62 => ?_)
          · have h62 := zb_0.mp h62
            exact absurd (⟨hw, hw2, hw, hw3⟩ : ((0 ≤ x ∧ x < D 1 0) ∧ 0 ≤ y ∧ y < D 1 0) ∧ (¬ x = y) ∧ (((0 ≤ x ∧ x < D 1 0) ∧ 0 ≤ y ∧ y < D 1 0) ∧ hasDev D x.toNat u)) (by assumption)
          · have h62 := zb_n.mp h62
            refine zx_aloadN dX10_transferDevice_65 rfl rfl ?_
            refine zx_aloadN dX10_transferDevice_66 rfl rfl ?_
            refine zx_iloadN dX10_transferDevice_67 rfl rfl ?_
            refine zx_iloadN dX10_transferDevice_68 rfl rfl ?_
            refine zx_iloadN dX10_transferDevice_69 rfl rfl ?_
            refine zy_cvR [zi x, zi y, zi u] (sX10_lendNow (D := D) hfl hz59 (by first | assumption | omega) hRt (by first | exact hz59 _ _ | assumption | exact zr_b _ | exact zcmp_r _ _ | (unfold zr at *; omega)) (by first | exact hz59 _ _ | assumption | exact zr_b _ | exact zcmp_r _ _ | (unfold zr at *; omega)) (by first | exact hz59 _ _ | assumption | exact zr_b _ | exact zcmp_r _ _ | (unfold zr at *; omega)) hw ⟨hw2, hw3⟩) dX10_transferDevice_70 (by decide) rfl cw_RX10_384 okX10_lendNow rfl (Nat.le_of_ble_eq_true rfl) ⟨Nat.le_of_ble_eq_true rfl, Nat.le_of_ble_eq_true rfl, Nat.le_of_ble_eq_true rfl, Nat.le_of_ble_eq_true rfl⟩ (fun τ70 hr70 => ?_)
            have hz70 : zOK τ70 := hr70.1
            have h5n : 0 ≤ τ70.1 261 5 ∧ τ70.1 261 5 ≤ 8 := by rw [hr70.2.1.2.1 5 (by omega)]; exact h5t
            refine zy_cvR [zi (zb True)] (sX10_done (A := True) hfl hz70 h5n) dX10_transferDevice_73 (by decide) rfl cw_RX10_452 okX10_done rfl (Nat.le_of_ble_eq_true rfl) ⟨Nat.le_of_ble_eq_true rfl, Nat.le_of_ble_eq_true rfl, Nat.le_of_ble_eq_true rfl, Nat.le_of_ble_eq_true rfl⟩ (fun τ73 hr73 => ?_)
            have hz73 : zOK τ73 := hr73.1
            refine zx_goto (tgt := 80) dX10_transferDevice_76 (by decide) ?_
            refine zx_iret rfl rfl dX10_transferDevice_80 ?_
            rw [hQ]
            refine ⟨congrArg (fun z : Int => (Sum.inl (some (zi z)) : Option zV ⊕ String)) ?_, ?_⟩
            · exact hr70.2.2.2
            have ht : mfr (zput σ 261 6 (th3 ((0 ≤ x ∧ x < D 1 0) ∧ 0 ≤ y ∧ y < D 1 0) (¬ x = y) (((0 ≤ x ∧ x < D 1 0) ∧ 0 ≤ y ∧ y < D 1 0) ∧ hasDev D x.toNat u))) τ59 (fun k => k = 264) (fun _ => False) := mfr_cpo hr59.2 (by decide)
            have mB : mfr σ (zput σ 261 6 (th3 ((0 ≤ x ∧ x < D 1 0) ∧ 0 ≤ y ∧ y < D 1 0) (¬ x = y) (((0 ≤ x ∧ x < D 1 0) ∧ 0 ≤ y ∧ y < D 1 0) ∧ hasDev D x.toNat u))) (fun _ => False) (fun i => i = 6) := mfr_mo (mfr_put261 (mfr_rf σ (fun _ => False) (fun _ => False))) (fun k q => q) (fun i q => by rcases q with q | q; exact absurd q id; exact q)
            have m1 : mfr σ τ59 mA mF := mfr_tr mB ht (fun k q => by rcases q with q | q; exact absurd q id; exact Or.inr (Or.inl q)) (fun i q => by rcases q with q | q; exact Or.inr (Or.inl q); exact absurd q id)
            have m2 : mfr σ τ70 mA mF := mfr_tr m1 hr70.2.1 (fun k q => by unfold mA at *; omega) (fun i q => by unfold mF at *; omega)
            have m3 : mfr σ τ73 mA mF := mfr_tr m2 hr73.2.1 (fun k q => by unfold mA at *; omega) (fun i q => by unfold mF at *; omega)
            have h264 : ∀ j, j < 380 → τ70.1 264 j = σ.1 262 j := fun j hj => by
              rw [hr70.2.1.1 264 (by omega) (by omega) j]
              have := hr59.2.2.2.1 j hj
              rw [Nat.zero_add] at this
              rw [this]; exact zput_k _ _ _ _ _ (by omega)
            have h266 : ∀ j, τ70.1 266 j = σ.1 266 j := fun j => by
              rw [hr70.2.1.1 266 (by omega) (by omega) j, ht.1 266 (by omega) (by omega) j]; exact zput_k _ _ _ _ _ (by omega)
            have h65 : τ70.1 261 5 = σ.1 261 5 := by
              rw [hr70.2.1.2.1 5 (by omega), ht.2.1 5 (fun q => q)]; exact zput_i _ _ _ _ _ (by omega)
            have h66 : τ73.1 261 6 = 0 := by
              rw [hr73.2.1.2.1 6 (by omega), hr70.2.1.2.1 6 (by omega), ht.2.1 6 (fun q => q)]; exact (zput_s _ _ _ _).trans (th3_0 hw hw2 ⟨hw, hw3⟩)
            exact ⟨hz73, m3, mfr_R hr73.2.1 (by omega) hr70.2.2.1, MPu_to hr73.2.2 h65 h266 h264, h66⟩
        · have h39 := zb_n.mp h39
          refine zx_aloadN dX10_transferDevice_42 rfl rfl ?_
          refine zx_iloadN dX10_transferDevice_43 rfl rfl ?_
          refine zy_top (b := ((x.toNat : Nat) : Int)) (by omega) ?_
          refine zx_iloadN dX10_transferDevice_44 rfl rfl ?_
          refine zy_cv [zi ((x.toNat : Nat) : Int), zi u] (sX10_ownsDevice (D := D) (p := x.toNat) hfl hz (by first | assumption | omega) (by first | assumption | (refine Rel_put (by decide) ?_; assumption) | (refine Rel_put (by decide) (Rel_put (by decide) ?_); assumption) | (refine Rel_put (by decide) (Rel_put (by decide) (Rel_put (by decide) ?_)); assumption)) (by first | assumption | omega) (by first | exact hz _ _ | assumption | exact zr_b _ | exact zcmp_r _ _ | (unfold zr at *; omega))) dX10_transferDevice_45 (by decide) rfl cw_RX10_90 okX10_ownsDevice rfl (Nat.le_of_ble_eq_true rfl) ⟨Nat.le_of_ble_eq_true rfl, Nat.le_of_ble_eq_true rfl, Nat.le_of_ble_eq_true rfl, Nat.le_of_ble_eq_true rfl⟩ ?_
          refine zx_if_eq (tgt := 55) (by first | exact hz _ _ | assumption | exact zr_b _ | exact zcmp_r _ _ | (unfold zr at *; omega)) dX10_transferDevice_48 (by decide) (fun h48 => ?_) (fun h48 => ?_)
          · have h48 := zb_0.mp h48
            refine zx_iconst dX10_transferDevice_55 ?_
            refine zy_top (b := zb (((0 ≤ x ∧ x < D 1 0) ∧ 0 ≤ y ∧ y < D 1 0) ∧ hasDev D x.toNat u)) (by first | exact (zb_t (by exact ⟨by assumption, by assumption⟩)).symm | exact (zb_f (fun q => absurd q.1 (by assumption))).symm | exact (zb_f (fun q => absurd q.2 (by assumption))).symm) ?_
            refine zy_cv [zi (zb ((0 ≤ x ∧ x < D 1 0) ∧ 0 ≤ y ∧ y < D 1 0)), zi (zb (¬ x = y)), zi (zb (((0 ≤ x ∧ x < D 1 0) ∧ 0 ≤ y ∧ y < D 1 0) ∧ hasDev D x.toNat u))] (sX10_passesAll (A := ((0 ≤ x ∧ x < D 1 0) ∧ 0 ≤ y ∧ y < D 1 0)) (B := (¬ x = y)) (C := (((0 ≤ x ∧ x < D 1 0) ∧ 0 ≤ y ∧ y < D 1 0) ∧ hasDev D x.toNat u)) hfl hz ) dX10_transferDevice_56 (by decide) rfl cw_RX10_462 okX10_passesAll rfl (Nat.le_of_ble_eq_true rfl) ⟨Nat.le_of_ble_eq_true rfl, Nat.le_of_ble_eq_true rfl, Nat.le_of_ble_eq_true rfl, Nat.le_of_ble_eq_true rfl⟩ ?_
            refine zy_cvR [zi (zb (((0 ≤ x ∧ x < D 1 0) ∧ 0 ≤ y ∧ y < D 1 0) ∧ (¬ x = y) ∧ (((0 ≤ x ∧ x < D 1 0) ∧ 0 ≤ y ∧ y < D 1 0) ∧ hasDev D x.toNat u)))] (sX10_tried (A := (((0 ≤ x ∧ x < D 1 0) ∧ 0 ≤ y ∧ y < D 1 0) ∧ (¬ x = y) ∧ (((0 ≤ x ∧ x < D 1 0) ∧ 0 ≤ y ∧ y < D 1 0) ∧ hasDev D x.toNat u))) hfl (zOK_put hz (th3_r _ _ _)) (⟨hw, hw2, hw, hw3⟩ : ((0 ≤ x ∧ x < D 1 0) ∧ 0 ≤ y ∧ y < D 1 0) ∧ (¬ x = y) ∧ (((0 ≤ x ∧ x < D 1 0) ∧ 0 ≤ y ∧ y < D 1 0) ∧ hasDev D x.toNat u))) dX10_transferDevice_59 (by decide) rfl cw_RX10_449 okX10_tried rfl (Nat.le_of_ble_eq_true rfl) ⟨Nat.le_of_ble_eq_true rfl, Nat.le_of_ble_eq_true rfl, Nat.le_of_ble_eq_true rfl, Nat.le_of_ble_eq_true rfl⟩ (fun τ59 hr59 => ?_)
            have hz59 : zOK τ59 := hr59.1
            have hRt : Rel D (τ59.1 262) := mfr_R (mfr_cpo hr59.2 (by decide)) (by decide) (Rel_put (by decide) hR)
            have h5t : 0 ≤ τ59.1 261 5 ∧ τ59.1 261 5 ≤ 8 := by rw [hr59.2.1 261 (by decide), zput_i _ _ _ _ _ (by decide)]; exact hm5
            refine zx_if_eq (tgt := 79) (by first | exact hz59 _ _ | assumption | exact zr_b _ | exact zcmp_r _ _ | (unfold zr at *; omega)) dX10_transferDevice_62 (by decide) (fun h62 => ?_) (fun h62 => ?_)
            · have h62 := zb_0.mp h62
              exact absurd (⟨hw, hw2, hw, hw3⟩ : ((0 ≤ x ∧ x < D 1 0) ∧ 0 ≤ y ∧ y < D 1 0) ∧ (¬ x = y) ∧ (((0 ≤ x ∧ x < D 1 0) ∧ 0 ≤ y ∧ y < D 1 0) ∧ hasDev D x.toNat u)) (by assumption)
            · have h62 := zb_n.mp h62
              refine zx_aloadN dX10_transferDevice_65 rfl rfl ?_
              refine zx_aloadN dX10_transferDevice_66 rfl rfl ?_
              refine zx_iloadN dX10_transferDevice_67 rfl rfl ?_
              refine zx_iloadN dX10_transferDevice_68 rfl rfl ?_
              refine zx_iloadN dX10_transferDevice_69 rfl rfl ?_
              refine zy_cvR [zi x, zi y, zi u] (sX10_lendNow (D := D) hfl hz59 (by first | assumption | omega) hRt (by first | exact hz59 _ _ | assumption | exact zr_b _ | exact zcmp_r _ _ | (unfold zr at *; omega)) (by first | exact hz59 _ _ | assumption | exact zr_b _ | exact zcmp_r _ _ | (unfold zr at *; omega)) (by first | exact hz59 _ _ | assumption | exact zr_b _ | exact zcmp_r _ _ | (unfold zr at *; omega)) hw ⟨hw2, hw3⟩) dX10_transferDevice_70 (by decide) rfl cw_RX10_384 okX10_lendNow rfl (Nat.le_of_ble_eq_true rfl) ⟨Nat.le_of_ble_eq_true rfl, Nat.le_of_ble_eq_true rfl, Nat.le_of_ble_eq_true rfl, Nat.le_of_ble_eq_true rfl⟩ (fun τ70 hr70 => ?_)
              have hz70 : zOK τ70 := hr70.1
              have h5n : 0 ≤ τ70.1 261 5 ∧ τ70.1 261 5 ≤ 8 := by rw [hr70.2.1.2.1 5 (by omega)]; exact h5t
              refine zy_cvR [zi (zb True)] (sX10_done (A := True) hfl hz70 h5n) dX10_transferDevice_73 (by decide) rfl cw_RX10_452 okX10_done rfl (Nat.le_of_ble_eq_true rfl) ⟨Nat.le_of_ble_eq_true rfl, Nat.le_of_ble_eq_true rfl, Nat.le_of_ble_eq_true rfl, Nat.le_of_ble_eq_true rfl⟩ (fun τ73 hr73 => ?_)
              have hz73 : zOK τ73 := hr73.1
              refine zx_goto (tgt := 80) dX10_transferDevice_76 (by decide) ?_
              refine zx_iret rfl rfl dX10_transferDevice_80 ?_
              rw [hQ]
              refine ⟨congrArg (fun z : Int => (Sum.inl (some (zi z)) : Option zV ⊕ String)) ?_, ?_⟩
              · exact hr70.2.2.2
              have ht : mfr (zput σ 261 6 (th3 ((0 ≤ x ∧ x < D 1 0) ∧ 0 ≤ y ∧ y < D 1 0) (¬ x = y) (((0 ≤ x ∧ x < D 1 0) ∧ 0 ≤ y ∧ y < D 1 0) ∧ hasDev D x.toNat u))) τ59 (fun k => k = 264) (fun _ => False) := mfr_cpo hr59.2 (by decide)
              have mB : mfr σ (zput σ 261 6 (th3 ((0 ≤ x ∧ x < D 1 0) ∧ 0 ≤ y ∧ y < D 1 0) (¬ x = y) (((0 ≤ x ∧ x < D 1 0) ∧ 0 ≤ y ∧ y < D 1 0) ∧ hasDev D x.toNat u))) (fun _ => False) (fun i => i = 6) := mfr_mo (mfr_put261 (mfr_rf σ (fun _ => False) (fun _ => False))) (fun k q => q) (fun i q => by rcases q with q | q; exact absurd q id; exact q)
              have m1 : mfr σ τ59 mA mF := mfr_tr mB ht (fun k q => by rcases q with q | q; exact absurd q id; exact Or.inr (Or.inl q)) (fun i q => by rcases q with q | q; exact Or.inr (Or.inl q); exact absurd q id)
              have m2 : mfr σ τ70 mA mF := mfr_tr m1 hr70.2.1 (fun k q => by unfold mA at *; omega) (fun i q => by unfold mF at *; omega)
              have m3 : mfr σ τ73 mA mF := mfr_tr m2 hr73.2.1 (fun k q => by unfold mA at *; omega) (fun i q => by unfold mF at *; omega)
              have h264 : ∀ j, j < 380 → τ70.1 264 j = σ.1 262 j := fun j hj => by
                rw [hr70.2.1.1 264 (by omega) (by omega) j]
                have := hr59.2.2.2.1 j hj
                rw [Nat.zero_add] at this
                rw [this]; exact zput_k _ _ _ _ _ (by omega)
              have h266 : ∀ j, τ70.1 266 j = σ.1 266 j := fun j => by
                rw [hr70.2.1.1 266 (by omega) (by omega) j, ht.1 266 (by omega) (by omega) j]; exact zput_k _ _ _ _ _ (by omega)
              have h65 : τ70.1 261 5 = σ.1 261 5 := by
                rw [hr70.2.1.2.1 5 (by omega), ht.2.1 5 (fun q => q)]; exact zput_i _ _ _ _ _ (by omega)
              have h66 : τ73.1 261 6 = 0 := by
                rw [hr73.2.1.2.1 6 (by omega), hr70.2.1.2.1 6 (by omega), ht.2.1 6 (fun q => q)]; exact (zput_s _ _ _ _).trans (th3_0 hw hw2 ⟨hw, hw3⟩)
              exact ⟨hz73, m3, mfr_R hr73.2.1 (by omega) hr70.2.2.1, MPu_to hr73.2.2 h65 h266 h264, h66⟩
          · have h48 := zb_n.mp h48
            refine zx_iconst dX10_transferDevice_51 ?_
            refine zx_goto (tgt := 56) dX10_transferDevice_52 (by decide) ?_
            refine zy_top (b := zb (((0 ≤ x ∧ x < D 1 0) ∧ 0 ≤ y ∧ y < D 1 0) ∧ hasDev D x.toNat u)) (by first | exact (zb_t (by exact ⟨by assumption, by assumption⟩)).symm | exact (zb_f (fun q => absurd q.1 (by assumption))).symm | exact (zb_f (fun q => absurd q.2 (by assumption))).symm) ?_
            refine zy_cv [zi (zb ((0 ≤ x ∧ x < D 1 0) ∧ 0 ≤ y ∧ y < D 1 0)), zi (zb (¬ x = y)), zi (zb (((0 ≤ x ∧ x < D 1 0) ∧ 0 ≤ y ∧ y < D 1 0) ∧ hasDev D x.toNat u))] (sX10_passesAll (A := ((0 ≤ x ∧ x < D 1 0) ∧ 0 ≤ y ∧ y < D 1 0)) (B := (¬ x = y)) (C := (((0 ≤ x ∧ x < D 1 0) ∧ 0 ≤ y ∧ y < D 1 0) ∧ hasDev D x.toNat u)) hfl hz ) dX10_transferDevice_56 (by decide) rfl cw_RX10_462 okX10_passesAll rfl (Nat.le_of_ble_eq_true rfl) ⟨Nat.le_of_ble_eq_true rfl, Nat.le_of_ble_eq_true rfl, Nat.le_of_ble_eq_true rfl, Nat.le_of_ble_eq_true rfl⟩ ?_
            refine zy_cvR [zi (zb (((0 ≤ x ∧ x < D 1 0) ∧ 0 ≤ y ∧ y < D 1 0) ∧ (¬ x = y) ∧ (((0 ≤ x ∧ x < D 1 0) ∧ 0 ≤ y ∧ y < D 1 0) ∧ hasDev D x.toNat u)))] (sX10_tried (A := (((0 ≤ x ∧ x < D 1 0) ∧ 0 ≤ y ∧ y < D 1 0) ∧ (¬ x = y) ∧ (((0 ≤ x ∧ x < D 1 0) ∧ 0 ≤ y ∧ y < D 1 0) ∧ hasDev D x.toNat u))) hfl (zOK_put hz (th3_r _ _ _)) (⟨hw, hw2, hw, hw3⟩ : ((0 ≤ x ∧ x < D 1 0) ∧ 0 ≤ y ∧ y < D 1 0) ∧ (¬ x = y) ∧ (((0 ≤ x ∧ x < D 1 0) ∧ 0 ≤ y ∧ y < D 1 0) ∧ hasDev D x.toNat u))) dX10_transferDevice_59 (by decide) rfl cw_RX10_449 okX10_tried rfl (Nat.le_of_ble_eq_true rfl) ⟨Nat.le_of_ble_eq_true rfl, Nat.le_of_ble_eq_true rfl, Nat.le_of_ble_eq_true rfl, Nat.le_of_ble_eq_true rfl⟩ (fun τ59 hr59 => ?_)
            have hz59 : zOK τ59 := hr59.1
            have hRt : Rel D (τ59.1 262) := mfr_R (mfr_cpo hr59.2 (by decide)) (by decide) (Rel_put (by decide) hR)
            have h5t : 0 ≤ τ59.1 261 5 ∧ τ59.1 261 5 ≤ 8 := by rw [hr59.2.1 261 (by decide), zput_i _ _ _ _ _ (by decide)]; exact hm5
            refine zx_if_eq (tgt := 79) (by first | exact hz59 _ _ | assumption | exact zr_b _ | exact zcmp_r _ _ | (unfold zr at *; omega)) dX10_transferDevice_62 (by decide) (fun h62 => ?_) (fun h62 => ?_)
            · have h62 := zb_0.mp h62
              exact absurd (⟨hw, hw2, hw, hw3⟩ : ((0 ≤ x ∧ x < D 1 0) ∧ 0 ≤ y ∧ y < D 1 0) ∧ (¬ x = y) ∧ (((0 ≤ x ∧ x < D 1 0) ∧ 0 ≤ y ∧ y < D 1 0) ∧ hasDev D x.toNat u)) (by assumption)
            · have h62 := zb_n.mp h62
              refine zx_aloadN dX10_transferDevice_65 rfl rfl ?_
              refine zx_aloadN dX10_transferDevice_66 rfl rfl ?_
              refine zx_iloadN dX10_transferDevice_67 rfl rfl ?_
              refine zx_iloadN dX10_transferDevice_68 rfl rfl ?_
              refine zx_iloadN dX10_transferDevice_69 rfl rfl ?_
              refine zy_cvR [zi x, zi y, zi u] (sX10_lendNow (D := D) hfl hz59 (by first | assumption | omega) hRt (by first | exact hz59 _ _ | assumption | exact zr_b _ | exact zcmp_r _ _ | (unfold zr at *; omega)) (by first | exact hz59 _ _ | assumption | exact zr_b _ | exact zcmp_r _ _ | (unfold zr at *; omega)) (by first | exact hz59 _ _ | assumption | exact zr_b _ | exact zcmp_r _ _ | (unfold zr at *; omega)) hw ⟨hw2, hw3⟩) dX10_transferDevice_70 (by decide) rfl cw_RX10_384 okX10_lendNow rfl (Nat.le_of_ble_eq_true rfl) ⟨Nat.le_of_ble_eq_true rfl, Nat.le_of_ble_eq_true rfl, Nat.le_of_ble_eq_true rfl, Nat.le_of_ble_eq_true rfl⟩ (fun τ70 hr70 => ?_)
              have hz70 : zOK τ70 := hr70.1
              have h5n : 0 ≤ τ70.1 261 5 ∧ τ70.1 261 5 ≤ 8 := by rw [hr70.2.1.2.1 5 (by omega)]; exact h5t
              refine zy_cvR [zi (zb True)] (sX10_done (A := True) hfl hz70 h5n) dX10_transferDevice_73 (by decide) rfl cw_RX10_452 okX10_done rfl (Nat.le_of_ble_eq_true rfl) ⟨Nat.le_of_ble_eq_true rfl, Nat.le_of_ble_eq_true rfl, Nat.le_of_ble_eq_true rfl, Nat.le_of_ble_eq_true rfl⟩ (fun τ73 hr73 => ?_)
              have hz73 : zOK τ73 := hr73.1
              refine zx_goto (tgt := 80) dX10_transferDevice_76 (by decide) ?_
              refine zx_iret rfl rfl dX10_transferDevice_80 ?_
              rw [hQ]
              refine ⟨congrArg (fun z : Int => (Sum.inl (some (zi z)) : Option zV ⊕ String)) ?_, ?_⟩
              · exact hr70.2.2.2
              have ht : mfr (zput σ 261 6 (th3 ((0 ≤ x ∧ x < D 1 0) ∧ 0 ≤ y ∧ y < D 1 0) (¬ x = y) (((0 ≤ x ∧ x < D 1 0) ∧ 0 ≤ y ∧ y < D 1 0) ∧ hasDev D x.toNat u))) τ59 (fun k => k = 264) (fun _ => False) := mfr_cpo hr59.2 (by decide)
              have mB : mfr σ (zput σ 261 6 (th3 ((0 ≤ x ∧ x < D 1 0) ∧ 0 ≤ y ∧ y < D 1 0) (¬ x = y) (((0 ≤ x ∧ x < D 1 0) ∧ 0 ≤ y ∧ y < D 1 0) ∧ hasDev D x.toNat u))) (fun _ => False) (fun i => i = 6) := mfr_mo (mfr_put261 (mfr_rf σ (fun _ => False) (fun _ => False))) (fun k q => q) (fun i q => by rcases q with q | q; exact absurd q id; exact q)
              have m1 : mfr σ τ59 mA mF := mfr_tr mB ht (fun k q => by rcases q with q | q; exact absurd q id; exact Or.inr (Or.inl q)) (fun i q => by rcases q with q | q; exact Or.inr (Or.inl q); exact absurd q id)
              have m2 : mfr σ τ70 mA mF := mfr_tr m1 hr70.2.1 (fun k q => by unfold mA at *; omega) (fun i q => by unfold mF at *; omega)
              have m3 : mfr σ τ73 mA mF := mfr_tr m2 hr73.2.1 (fun k q => by unfold mA at *; omega) (fun i q => by unfold mF at *; omega)
              have h264 : ∀ j, j < 380 → τ70.1 264 j = σ.1 262 j := fun j hj => by
                rw [hr70.2.1.1 264 (by omega) (by omega) j]
                have := hr59.2.2.2.1 j hj
                rw [Nat.zero_add] at this
                rw [this]; exact zput_k _ _ _ _ _ (by omega)
              have h266 : ∀ j, τ70.1 266 j = σ.1 266 j := fun j => by
                rw [hr70.2.1.1 266 (by omega) (by omega) j, ht.1 266 (by omega) (by omega) j]; exact zput_k _ _ _ _ _ (by omega)
              have h65 : τ70.1 261 5 = σ.1 261 5 := by
                rw [hr70.2.1.2.1 5 (by omega), ht.2.1 5 (fun q => q)]; exact zput_i _ _ _ _ _ (by omega)
              have h66 : τ73.1 261 6 = 0 := by
                rw [hr73.2.1.2.1 6 (by omega), hr70.2.1.2.1 6 (by omega), ht.2.1 6 (fun q => q)]; exact (zput_s _ _ _ _).trans (th3_0 hw hw2 ⟨hw, hw3⟩)
              exact ⟨hz73, m3, mfr_R hr73.2.1 (by omega) hr70.2.2.1, MPu_to hr73.2.2 h65 h266 h264, h66⟩
set_option maxRecDepth 20000 in
set_option maxHeartbeats 2000000 in
theorem sX10_adds_t1 {l : Launch} {w : zW} (hfl : l.stackTraces = false) {σ : zS} {D : zBk} {pg kd vl wt mx : Int} (hz : zOK σ) (hW : WF D) (hR : Rel D (σ.1 262)) (h1 : zr pg) (h2 : zr kd) (h3 : zr vl) (h4 : zr wt) (h5m : zr mx) (hw : ¬ ((1 ≤ pg ∧ pg ≤ 999) ∧ ((if kd = 4 then 1450 else 0) ≤ vl ∧ vl ≤ mx) ∧ 1 ≤ wt ∧ wt ≤ 9)) : Sp l w mX10_adds 3 0 [zf 10 261, zi pg, zi kd, zi vl, zi wt, zi mx] σ (zqv (some (zi 0)) (fun τ => zOK τ ∧ QP D σ τ ∧ τ.1 261 6 = 1)) := by
  obtain ⟨Q, hQ⟩ : ∃ Q : zQ, Q = (zqv (some (zi 0)) (fun τ => zOK τ ∧ QP D σ τ ∧ τ.1 261 6 = 1)) := ⟨_, rfl⟩
  rw [← hQ]
  refine zx_enter hfl (by decide) rfl 2 rfl ?_
  show zX l w mX10_adds (zMQ w 3 0 Q) 0 [zf 10 261, zi pg, zi kd, zi vl, zi wt, zi mx, zu, zu] [] 0 σ
  have hP : 0 ≤ D 1 0 ∧ D 1 0 ≤ 8 := hW.1.1
  have hM : 0 ≤ D 1 7 ∧ D 1 7 ≤ 8 := hW.1.2.1
  have hE : 0 ≤ D 1 10 ∧ D 1 10 ≤ 12 := hW.1.2.2.1
  have hK : 0 ≤ D 12 0 ∧ D 12 0 ≤ 40 := hW.1.2.2.2
  have r0 : σ.1 262 0 = D 1 0 := hR.1.1
  have r1 : σ.1 262 1 = D 1 7 := hR.1.2.1
  have r2 : σ.1 262 2 = D 1 10 := hR.1.2.2.1
  have r3 : σ.1 262 3 = D 12 0 := hR.1.2.2.2
  refine zx_iloadN dX10_adds_0 rfl rfl ?_
  refine zx_iconst dX10_adds_1 ?_
  refine zx_icmp_ne (tgt := 11) (by first | exact hz _ _ | assumption | exact zr_b _ | exact zcmp_r _ _ | (unfold zr at *; omega)) (by first | exact hz _ _ | assumption | exact zr_b _ | exact zcmp_r _ _ | (unfold zr at *; omega)) dX10_adds_2 (by decide) (fun h2 => ?_) (fun h2 => ?_)
  · refine zx_iconst dX10_adds_11 ?_
    refine zy_top (b := (if kd = 4 then 1450 else 0)) (by first | exact (if_pos (by assumption)).symm | exact (if_neg (by assumption)).symm) ?_
    refine zy_istore [zf 10 261, zi pg, zi kd, zi vl, zi wt, zi mx, zi (if kd = 4 then 1450 else 0), zu] dX10_adds_12 (Nat.le_of_ble_eq_true rfl) (Nat.le_of_ble_eq_true rfl) rfl rfl ?_
    refine zx_iloadN dX10_adds_14 rfl rfl ?_
    have zlo : zr (if kd = 4 then 1450 else 0) := by split <;> (unfold zr; omega)
    refine zx_i2l (by first | exact hz _ _ | assumption | exact zr_b _ | exact zcmp_r _ _ | (unfold zr at *; omega)) dX10_adds_15 ?_
    refine zx_lconst (a := 1) dX10_adds_16 rfl ?_
    refine zx_ldc2 (a := 999) dX10_adds_17 lk_RX10_445 ?_
    refine zy_cs [zl pg, zl 1, zl 999] (sX10_in  hfl hz (by first | exact hz _ _ | assumption | exact zr_b _ | exact zcmp_r _ _ | (unfold zr at *; omega)) (by first | exact hz _ _ | assumption | exact zr_b _ | exact zcmp_r _ _ | (unfold zr at *; omega)) (by first | exact hz _ _ | assumption | exact zr_b _ | exact zcmp_r _ _ | (unfold zr at *; omega))) dX10_adds_20 cw_RX10_74 okX10_in rfl (Nat.le_of_ble_eq_true rfl) ⟨Nat.le_of_ble_eq_true rfl, Nat.le_of_ble_eq_true rfl, Nat.le_of_ble_eq_true rfl, Nat.le_of_ble_eq_true rfl⟩ ?_
    refine zx_if_eq (tgt := 57) (by first | exact hz _ _ | assumption | exact zr_b _ | exact zcmp_r _ _ | (unfold zr at *; omega)) dX10_adds_23 (by decide) (fun h23 => ?_) (fun h23 => ?_)
    · have h23 := zb_0.mp h23
      refine zx_iconst dX10_adds_57 ?_
      refine zy_top (b := zb ((1 ≤ pg ∧ pg ≤ 999) ∧ ((if kd = 4 then 1450 else 0) ≤ vl ∧ vl ≤ mx) ∧ 1 ≤ wt ∧ wt ≤ 9)) (by first | exact (zb_t ⟨by assumption, by assumption, by assumption⟩).symm | exact (zb_f (fun q => absurd q.1 (by assumption))).symm | exact (zb_f (fun q => absurd q.2.1 (by assumption))).symm | exact (zb_f (fun q => absurd q.2.2 (by assumption))).symm) ?_
      refine zy_istore [zf 10 261, zi pg, zi kd, zi vl, zi wt, zi mx, zi (if kd = 4 then 1450 else 0), zi (zb ((1 ≤ pg ∧ pg ≤ 999) ∧ ((if kd = 4 then 1450 else 0) ≤ vl ∧ vl ≤ mx) ∧ 1 ≤ wt ∧ wt ≤ 9))] dX10_adds_58 (Nat.le_of_ble_eq_true rfl) (Nat.le_of_ble_eq_true rfl) rfl rfl ?_
      refine zx_aloadN dX10_adds_60 rfl rfl ?_
      refine zx_aloadN dX10_adds_61 rfl rfl ?_
      refine zx_iload dX10_adds_62 rfl ?_
      refine zx_aloadN dX10_adds_64 rfl rfl ?_
      refine zy_getR (q' := 262) fl_RX10_7 rfl dX10_adds_65 rfl ?_
      refine zx_iconst dX10_adds_68 ?_
      refine zy_iald (v := σ.1 262 3) rfl (by decide) (by decide) dX10_adds_69 (by omega) (by omega) rfl ?_
      refine zx_bipush dX10_adds_70 rfl ?_
      refine zx_icmp_ge (tgt := 79) (by first | exact hz _ _ | assumption | exact zr_b _ | exact zcmp_r _ _ | (unfold zr at *; omega)) (by first | exact hz _ _ | assumption | exact zr_b _ | exact zcmp_r _ _ | (unfold zr at *; omega)) dX10_adds_72 (by decide) (fun h72 => ?_) (fun h72 => ?_)
      · refine zx_iconst dX10_adds_79 ?_
        refine zy_top (b := zb (D 12 0 < 40)) (by first | exact (zb_t (by assumption)).symm | exact (zb_t (by omega)).symm | exact (zb_f (by omega)).symm | exact (zb_f (by assumption)).symm | exact (zb_f (fun q => q (by assumption))).symm) ?_
        refine zy_cv [zi (zb ((1 ≤ pg ∧ pg ≤ 999) ∧ ((if kd = 4 then 1450 else 0) ≤ vl ∧ vl ≤ mx) ∧ 1 ≤ wt ∧ wt ≤ 9)), zi (zb (D 12 0 < 40))] (sX10_passesBoth (A := ((1 ≤ pg ∧ pg ≤ 999) ∧ ((if kd = 4 then 1450 else 0) ≤ vl ∧ vl ≤ mx) ∧ 1 ≤ wt ∧ wt ≤ 9)) (B := (D 12 0 < 40)) hfl hz ) dX10_adds_80 (by decide) rfl cw_RX10_406 okX10_passesBoth rfl (Nat.le_of_ble_eq_true rfl) ⟨Nat.le_of_ble_eq_true rfl, Nat.le_of_ble_eq_true rfl, Nat.le_of_ble_eq_true rfl, Nat.le_of_ble_eq_true rfl⟩ ?_
        refine zy_cv [zi (zb (((1 ≤ pg ∧ pg ≤ 999) ∧ ((if kd = 4 then 1450 else 0) ≤ vl ∧ vl ≤ mx) ∧ 1 ≤ wt ∧ wt ≤ 9) ∧ (D 12 0 < 40)))] (sX10_tried_f (A := (((1 ≤ pg ∧ pg ≤ 999) ∧ ((if kd = 4 then 1450 else 0) ≤ vl ∧ vl ≤ mx) ∧ 1 ≤ wt ∧ wt ≤ 9) ∧ (D 12 0 < 40))) hfl (zOK_put hz (th2_r _ _)) (fun q => hw q.1)) dX10_adds_83 (by decide) rfl cw_RX10_449 okX10_tried rfl (Nat.le_of_ble_eq_true rfl) ⟨Nat.le_of_ble_eq_true rfl, Nat.le_of_ble_eq_true rfl, Nat.le_of_ble_eq_true rfl, Nat.le_of_ble_eq_true rfl⟩ ?_
        refine zx_if_eq (tgt := 105) (by first | exact hz _ _ | assumption | exact zr_b _ | exact zcmp_r _ _ | (unfold zr at *; omega)) dX10_adds_86 (by decide) (fun h86 => ?_) (fun h86 => ?_)
        · have h86 := zb_0.mp h86
          refine zx_iconst dX10_adds_105 ?_
          refine zx_iret rfl rfl dX10_adds_106 ?_
          rw [hQ]
          refine ⟨congrArg (fun z : Int => (Sum.inl (some (zi z)) : Option zV ⊕ String)) ?_, ?_⟩
          · rfl
          exact ⟨(zOK_put hz (th2_r _ _)), QP_th hR, (zput_s _ _ _ _).trans (th2_1 hw)⟩
        · have h86 := zb_n.mp h86
          exact absurd (by assumption : (((1 ≤ pg ∧ pg ≤ 999) ∧ ((if kd = 4 then 1450 else 0) ≤ vl ∧ vl ≤ mx) ∧ 1 ≤ wt ∧ wt ≤ 9)) ∧ D 12 0 < 40) (fun q => hw q.1)
      · refine zx_iconst dX10_adds_75 ?_
        refine zx_goto (tgt := 80) dX10_adds_76 (by decide) ?_
        refine zy_top (b := zb (D 12 0 < 40)) (by first | exact (zb_t (by assumption)).symm | exact (zb_t (by omega)).symm | exact (zb_f (by omega)).symm | exact (zb_f (by assumption)).symm | exact (zb_f (fun q => q (by assumption))).symm) ?_
        refine zy_cv [zi (zb ((1 ≤ pg ∧ pg ≤ 999) ∧ ((if kd = 4 then 1450 else 0) ≤ vl ∧ vl ≤ mx) ∧ 1 ≤ wt ∧ wt ≤ 9)), zi (zb (D 12 0 < 40))] (sX10_passesBoth (A := ((1 ≤ pg ∧ pg ≤ 999) ∧ ((if kd = 4 then 1450 else 0) ≤ vl ∧ vl ≤ mx) ∧ 1 ≤ wt ∧ wt ≤ 9)) (B := (D 12 0 < 40)) hfl hz ) dX10_adds_80 (by decide) rfl cw_RX10_406 okX10_passesBoth rfl (Nat.le_of_ble_eq_true rfl) ⟨Nat.le_of_ble_eq_true rfl, Nat.le_of_ble_eq_true rfl, Nat.le_of_ble_eq_true rfl, Nat.le_of_ble_eq_true rfl⟩ ?_
        refine zy_cv [zi (zb (((1 ≤ pg ∧ pg ≤ 999) ∧ ((if kd = 4 then 1450 else 0) ≤ vl ∧ vl ≤ mx) ∧ 1 ≤ wt ∧ wt ≤ 9) ∧ (D 12 0 < 40)))] (sX10_tried_f (A := (((1 ≤ pg ∧ pg ≤ 999) ∧ ((if kd = 4 then 1450 else 0) ≤ vl ∧ vl ≤ mx) ∧ 1 ≤ wt ∧ wt ≤ 9) ∧ (D 12 0 < 40))) hfl (zOK_put hz (th2_r _ _)) (fun q => hw q.1)) dX10_adds_83 (by decide) rfl cw_RX10_449 okX10_tried rfl (Nat.le_of_ble_eq_true rfl) ⟨Nat.le_of_ble_eq_true rfl, Nat.le_of_ble_eq_true rfl, Nat.le_of_ble_eq_true rfl, Nat.le_of_ble_eq_true rfl⟩ ?_
        refine zx_if_eq (tgt := 105) (by first | exact hz _ _ | assumption | exact zr_b _ | exact zcmp_r _ _ | (unfold zr at *; omega)) dX10_adds_86 (by decide) (fun h86 => ?_) (fun h86 => ?_)
        · have h86 := zb_0.mp h86
          refine zx_iconst dX10_adds_105 ?_
          refine zx_iret rfl rfl dX10_adds_106 ?_
          rw [hQ]
          refine ⟨congrArg (fun z : Int => (Sum.inl (some (zi z)) : Option zV ⊕ String)) ?_, ?_⟩
          · rfl
          exact ⟨(zOK_put hz (th2_r _ _)), QP_th hR, (zput_s _ _ _ _).trans (th2_1 hw)⟩
        · have h86 := zb_n.mp h86
          exact absurd (by assumption : (((1 ≤ pg ∧ pg ≤ 999) ∧ ((if kd = 4 then 1450 else 0) ≤ vl ∧ vl ≤ mx) ∧ 1 ≤ wt ∧ wt ≤ 9)) ∧ D 12 0 < 40) (fun q => hw q.1)
    · have h23 := zb_n.mp h23
      refine zx_iloadN dX10_adds_26 rfl rfl ?_
      refine zx_i2l (by first | exact hz _ _ | assumption | exact zr_b _ | exact zcmp_r _ _ | (unfold zr at *; omega)) dX10_adds_27 ?_
      refine zx_iload dX10_adds_28 rfl ?_
      refine zx_i2l (by first | exact hz _ _ | assumption | exact zr_b _ | exact zcmp_r _ _ | (unfold zr at *; omega)) dX10_adds_30 ?_
      refine zx_iload dX10_adds_31 rfl ?_
      refine zx_i2l (by first | exact hz _ _ | assumption | exact zr_b _ | exact zcmp_r _ _ | (unfold zr at *; omega)) dX10_adds_33 ?_
      refine zy_cs [zl vl, zl (if kd = 4 then 1450 else 0), zl mx] (sX10_in  hfl hz (by first | exact hz _ _ | assumption | exact zr_b _ | exact zcmp_r _ _ | (unfold zr at *; omega)) (by first | exact hz _ _ | assumption | exact zr_b _ | exact zcmp_r _ _ | (unfold zr at *; omega)) (by first | exact hz _ _ | assumption | exact zr_b _ | exact zcmp_r _ _ | (unfold zr at *; omega))) dX10_adds_34 cw_RX10_74 okX10_in rfl (Nat.le_of_ble_eq_true rfl) ⟨Nat.le_of_ble_eq_true rfl, Nat.le_of_ble_eq_true rfl, Nat.le_of_ble_eq_true rfl, Nat.le_of_ble_eq_true rfl⟩ ?_
      refine zx_if_eq (tgt := 57) (by first | exact hz _ _ | assumption | exact zr_b _ | exact zcmp_r _ _ | (unfold zr at *; omega)) dX10_adds_37 (by decide) (fun h37 => ?_) (fun h37 => ?_)
      · have h37 := zb_0.mp h37
        refine zx_iconst dX10_adds_57 ?_
        refine zy_top (b := zb ((1 ≤ pg ∧ pg ≤ 999) ∧ ((if kd = 4 then 1450 else 0) ≤ vl ∧ vl ≤ mx) ∧ 1 ≤ wt ∧ wt ≤ 9)) (by first | exact (zb_t ⟨by assumption, by assumption, by assumption⟩).symm | exact (zb_f (fun q => absurd q.1 (by assumption))).symm | exact (zb_f (fun q => absurd q.2.1 (by assumption))).symm | exact (zb_f (fun q => absurd q.2.2 (by assumption))).symm) ?_
        refine zy_istore [zf 10 261, zi pg, zi kd, zi vl, zi wt, zi mx, zi (if kd = 4 then 1450 else 0), zi (zb ((1 ≤ pg ∧ pg ≤ 999) ∧ ((if kd = 4 then 1450 else 0) ≤ vl ∧ vl ≤ mx) ∧ 1 ≤ wt ∧ wt ≤ 9))] dX10_adds_58 (Nat.le_of_ble_eq_true rfl) (Nat.le_of_ble_eq_true rfl) rfl rfl ?_
        refine zx_aloadN dX10_adds_60 rfl rfl ?_
        refine zx_aloadN dX10_adds_61 rfl rfl ?_
        refine zx_iload dX10_adds_62 rfl ?_
        refine zx_aloadN dX10_adds_64 rfl rfl ?_
        refine zy_getR (q' := 262) fl_RX10_7 rfl dX10_adds_65 rfl ?_
        refine zx_iconst dX10_adds_68 ?_
        refine zy_iald (v := σ.1 262 3) rfl (by decide) (by decide) dX10_adds_69 (by omega) (by omega) rfl ?_
        refine zx_bipush dX10_adds_70 rfl ?_
        refine zx_icmp_ge (tgt := 79) (by first | exact hz _ _ | assumption | exact zr_b _ | exact zcmp_r _ _ | (unfold zr at *; omega)) (by first | exact hz _ _ | assumption | exact zr_b _ | exact zcmp_r _ _ | (unfold zr at *; omega)) dX10_adds_72 (by decide) (fun h72 => ?_) (fun h72 => ?_)
        · refine zx_iconst dX10_adds_79 ?_
          refine zy_top (b := zb (D 12 0 < 40)) (by first | exact (zb_t (by assumption)).symm | exact (zb_t (by omega)).symm | exact (zb_f (by omega)).symm | exact (zb_f (by assumption)).symm | exact (zb_f (fun q => q (by assumption))).symm) ?_
          refine zy_cv [zi (zb ((1 ≤ pg ∧ pg ≤ 999) ∧ ((if kd = 4 then 1450 else 0) ≤ vl ∧ vl ≤ mx) ∧ 1 ≤ wt ∧ wt ≤ 9)), zi (zb (D 12 0 < 40))] (sX10_passesBoth (A := ((1 ≤ pg ∧ pg ≤ 999) ∧ ((if kd = 4 then 1450 else 0) ≤ vl ∧ vl ≤ mx) ∧ 1 ≤ wt ∧ wt ≤ 9)) (B := (D 12 0 < 40)) hfl hz ) dX10_adds_80 (by decide) rfl cw_RX10_406 okX10_passesBoth rfl (Nat.le_of_ble_eq_true rfl) ⟨Nat.le_of_ble_eq_true rfl, Nat.le_of_ble_eq_true rfl, Nat.le_of_ble_eq_true rfl, Nat.le_of_ble_eq_true rfl⟩ ?_
          refine zy_cv [zi (zb (((1 ≤ pg ∧ pg ≤ 999) ∧ ((if kd = 4 then 1450 else 0) ≤ vl ∧ vl ≤ mx) ∧ 1 ≤ wt ∧ wt ≤ 9) ∧ (D 12 0 < 40)))] (sX10_tried_f (A := (((1 ≤ pg ∧ pg ≤ 999) ∧ ((if kd = 4 then 1450 else 0) ≤ vl ∧ vl ≤ mx) ∧ 1 ≤ wt ∧ wt ≤ 9) ∧ (D 12 0 < 40))) hfl (zOK_put hz (th2_r _ _)) (fun q => hw q.1)) dX10_adds_83 (by decide) rfl cw_RX10_449 okX10_tried rfl (Nat.le_of_ble_eq_true rfl) ⟨Nat.le_of_ble_eq_true rfl, Nat.le_of_ble_eq_true rfl, Nat.le_of_ble_eq_true rfl, Nat.le_of_ble_eq_true rfl⟩ ?_
          refine zx_if_eq (tgt := 105) (by first | exact hz _ _ | assumption | exact zr_b _ | exact zcmp_r _ _ | (unfold zr at *; omega)) dX10_adds_86 (by decide) (fun h86 => ?_) (fun h86 => ?_)
          · have h86 := zb_0.mp h86
            refine zx_iconst dX10_adds_105 ?_
            refine zx_iret rfl rfl dX10_adds_106 ?_
            rw [hQ]
            refine ⟨congrArg (fun z : Int => (Sum.inl (some (zi z)) : Option zV ⊕ String)) ?_, ?_⟩
            · rfl
            exact ⟨(zOK_put hz (th2_r _ _)), QP_th hR, (zput_s _ _ _ _).trans (th2_1 hw)⟩
          · have h86 := zb_n.mp h86
            exact absurd (by assumption : (((1 ≤ pg ∧ pg ≤ 999) ∧ ((if kd = 4 then 1450 else 0) ≤ vl ∧ vl ≤ mx) ∧ 1 ≤ wt ∧ wt ≤ 9)) ∧ D 12 0 < 40) (fun q => hw q.1)
        · refine zx_iconst dX10_adds_75 ?_
          refine zx_goto (tgt := 80) dX10_adds_76 (by decide) ?_
          refine zy_top (b := zb (D 12 0 < 40)) (by first | exact (zb_t (by assumption)).symm | exact (zb_t (by omega)).symm | exact (zb_f (by omega)).symm | exact (zb_f (by assumption)).symm | exact (zb_f (fun q => q (by assumption))).symm) ?_
          refine zy_cv [zi (zb ((1 ≤ pg ∧ pg ≤ 999) ∧ ((if kd = 4 then 1450 else 0) ≤ vl ∧ vl ≤ mx) ∧ 1 ≤ wt ∧ wt ≤ 9)), zi (zb (D 12 0 < 40))] (sX10_passesBoth (A := ((1 ≤ pg ∧ pg ≤ 999) ∧ ((if kd = 4 then 1450 else 0) ≤ vl ∧ vl ≤ mx) ∧ 1 ≤ wt ∧ wt ≤ 9)) (B := (D 12 0 < 40)) hfl hz ) dX10_adds_80 (by decide) rfl cw_RX10_406 okX10_passesBoth rfl (Nat.le_of_ble_eq_true rfl) ⟨Nat.le_of_ble_eq_true rfl, Nat.le_of_ble_eq_true rfl, Nat.le_of_ble_eq_true rfl, Nat.le_of_ble_eq_true rfl⟩ ?_
          refine zy_cv [zi (zb (((1 ≤ pg ∧ pg ≤ 999) ∧ ((if kd = 4 then 1450 else 0) ≤ vl ∧ vl ≤ mx) ∧ 1 ≤ wt ∧ wt ≤ 9) ∧ (D 12 0 < 40)))] (sX10_tried_f (A := (((1 ≤ pg ∧ pg ≤ 999) ∧ ((if kd = 4 then 1450 else 0) ≤ vl ∧ vl ≤ mx) ∧ 1 ≤ wt ∧ wt ≤ 9) ∧ (D 12 0 < 40))) hfl (zOK_put hz (th2_r _ _)) (fun q => hw q.1)) dX10_adds_83 (by decide) rfl cw_RX10_449 okX10_tried rfl (Nat.le_of_ble_eq_true rfl) ⟨Nat.le_of_ble_eq_true rfl, Nat.le_of_ble_eq_true rfl, Nat.le_of_ble_eq_true rfl, Nat.le_of_ble_eq_true rfl⟩ ?_
          refine zx_if_eq (tgt := 105) (by first | exact hz _ _ | assumption | exact zr_b _ | exact zcmp_r _ _ | (unfold zr at *; omega)) dX10_adds_86 (by decide) (fun h86 => ?_) (fun h86 => ?_)
          · have h86 := zb_0.mp h86
            refine zx_iconst dX10_adds_105 ?_
            refine zx_iret rfl rfl dX10_adds_106 ?_
            rw [hQ]
            refine ⟨congrArg (fun z : Int => (Sum.inl (some (zi z)) : Option zV ⊕ String)) ?_, ?_⟩
            · rfl
            exact ⟨(zOK_put hz (th2_r _ _)), QP_th hR, (zput_s _ _ _ _).trans (th2_1 hw)⟩
          · have h86 := zb_n.mp h86
            exact absurd (by assumption : (((1 ≤ pg ∧ pg ≤ 999) ∧ ((if kd = 4 then 1450 else 0) ≤ vl ∧ vl ≤ mx) ∧ 1 ≤ wt ∧ wt ≤ 9)) ∧ D 12 0 < 40) (fun q => hw q.1)
      · have h37 := zb_n.mp h37
        refine zx_iload dX10_adds_40 rfl ?_
        refine zx_i2l (by first | exact hz _ _ | assumption | exact zr_b _ | exact zcmp_r _ _ | (unfold zr at *; omega)) dX10_adds_42 ?_
        refine zx_lconst (a := 1) dX10_adds_43 rfl ?_
        refine zx_ldc2 (a := 9) dX10_adds_44 lk_RX10_447 ?_
        refine zy_cs [zl wt, zl 1, zl 9] (sX10_in  hfl hz (by first | exact hz _ _ | assumption | exact zr_b _ | exact zcmp_r _ _ | (unfold zr at *; omega)) (by first | exact hz _ _ | assumption | exact zr_b _ | exact zcmp_r _ _ | (unfold zr at *; omega)) (by first | exact hz _ _ | assumption | exact zr_b _ | exact zcmp_r _ _ | (unfold zr at *; omega))) dX10_adds_47 cw_RX10_74 okX10_in rfl (Nat.le_of_ble_eq_true rfl) ⟨Nat.le_of_ble_eq_true rfl, Nat.le_of_ble_eq_true rfl, Nat.le_of_ble_eq_true rfl, Nat.le_of_ble_eq_true rfl⟩ ?_
        refine zx_if_eq (tgt := 57) (by first | exact hz _ _ | assumption | exact zr_b _ | exact zcmp_r _ _ | (unfold zr at *; omega)) dX10_adds_50 (by decide) (fun h50 => ?_) (fun h50 => ?_)
        · have h50 := zb_0.mp h50
          refine zx_iconst dX10_adds_57 ?_
          refine zy_top (b := zb ((1 ≤ pg ∧ pg ≤ 999) ∧ ((if kd = 4 then 1450 else 0) ≤ vl ∧ vl ≤ mx) ∧ 1 ≤ wt ∧ wt ≤ 9)) (by first | exact (zb_t ⟨by assumption, by assumption, by assumption⟩).symm | exact (zb_f (fun q => absurd q.1 (by assumption))).symm | exact (zb_f (fun q => absurd q.2.1 (by assumption))).symm | exact (zb_f (fun q => absurd q.2.2 (by assumption))).symm) ?_
          refine zy_istore [zf 10 261, zi pg, zi kd, zi vl, zi wt, zi mx, zi (if kd = 4 then 1450 else 0), zi (zb ((1 ≤ pg ∧ pg ≤ 999) ∧ ((if kd = 4 then 1450 else 0) ≤ vl ∧ vl ≤ mx) ∧ 1 ≤ wt ∧ wt ≤ 9))] dX10_adds_58 (Nat.le_of_ble_eq_true rfl) (Nat.le_of_ble_eq_true rfl) rfl rfl ?_
          refine zx_aloadN dX10_adds_60 rfl rfl ?_
          refine zx_aloadN dX10_adds_61 rfl rfl ?_
          refine zx_iload dX10_adds_62 rfl ?_
          refine zx_aloadN dX10_adds_64 rfl rfl ?_
          refine zy_getR (q' := 262) fl_RX10_7 rfl dX10_adds_65 rfl ?_
          refine zx_iconst dX10_adds_68 ?_
          refine zy_iald (v := σ.1 262 3) rfl (by decide) (by decide) dX10_adds_69 (by omega) (by omega) rfl ?_
          refine zx_bipush dX10_adds_70 rfl ?_
          refine zx_icmp_ge (tgt := 79) (by first | exact hz _ _ | assumption | exact zr_b _ | exact zcmp_r _ _ | (unfold zr at *; omega)) (by first | exact hz _ _ | assumption | exact zr_b _ | exact zcmp_r _ _ | (unfold zr at *; omega)) dX10_adds_72 (by decide) (fun h72 => ?_) (fun h72 => ?_)
          · refine zx_iconst dX10_adds_79 ?_
            refine zy_top (b := zb (D 12 0 < 40)) (by first | exact (zb_t (by assumption)).symm | exact (zb_t (by omega)).symm | exact (zb_f (by omega)).symm | exact (zb_f (by assumption)).symm | exact (zb_f (fun q => q (by assumption))).symm) ?_
            refine zy_cv [zi (zb ((1 ≤ pg ∧ pg ≤ 999) ∧ ((if kd = 4 then 1450 else 0) ≤ vl ∧ vl ≤ mx) ∧ 1 ≤ wt ∧ wt ≤ 9)), zi (zb (D 12 0 < 40))] (sX10_passesBoth (A := ((1 ≤ pg ∧ pg ≤ 999) ∧ ((if kd = 4 then 1450 else 0) ≤ vl ∧ vl ≤ mx) ∧ 1 ≤ wt ∧ wt ≤ 9)) (B := (D 12 0 < 40)) hfl hz ) dX10_adds_80 (by decide) rfl cw_RX10_406 okX10_passesBoth rfl (Nat.le_of_ble_eq_true rfl) ⟨Nat.le_of_ble_eq_true rfl, Nat.le_of_ble_eq_true rfl, Nat.le_of_ble_eq_true rfl, Nat.le_of_ble_eq_true rfl⟩ ?_
            refine zy_cv [zi (zb (((1 ≤ pg ∧ pg ≤ 999) ∧ ((if kd = 4 then 1450 else 0) ≤ vl ∧ vl ≤ mx) ∧ 1 ≤ wt ∧ wt ≤ 9) ∧ (D 12 0 < 40)))] (sX10_tried_f (A := (((1 ≤ pg ∧ pg ≤ 999) ∧ ((if kd = 4 then 1450 else 0) ≤ vl ∧ vl ≤ mx) ∧ 1 ≤ wt ∧ wt ≤ 9) ∧ (D 12 0 < 40))) hfl (zOK_put hz (th2_r _ _)) (fun q => hw q.1)) dX10_adds_83 (by decide) rfl cw_RX10_449 okX10_tried rfl (Nat.le_of_ble_eq_true rfl) ⟨Nat.le_of_ble_eq_true rfl, Nat.le_of_ble_eq_true rfl, Nat.le_of_ble_eq_true rfl, Nat.le_of_ble_eq_true rfl⟩ ?_
            refine zx_if_eq (tgt := 105) (by first | exact hz _ _ | assumption | exact zr_b _ | exact zcmp_r _ _ | (unfold zr at *; omega)) dX10_adds_86 (by decide) (fun h86 => ?_) (fun h86 => ?_)
            · have h86 := zb_0.mp h86
              refine zx_iconst dX10_adds_105 ?_
              refine zx_iret rfl rfl dX10_adds_106 ?_
              rw [hQ]
              refine ⟨congrArg (fun z : Int => (Sum.inl (some (zi z)) : Option zV ⊕ String)) ?_, ?_⟩
              · rfl
              exact ⟨(zOK_put hz (th2_r _ _)), QP_th hR, (zput_s _ _ _ _).trans (th2_1 hw)⟩
            · have h86 := zb_n.mp h86
              exact absurd (by assumption : (((1 ≤ pg ∧ pg ≤ 999) ∧ ((if kd = 4 then 1450 else 0) ≤ vl ∧ vl ≤ mx) ∧ 1 ≤ wt ∧ wt ≤ 9)) ∧ D 12 0 < 40) (fun q => hw q.1)
          · refine zx_iconst dX10_adds_75 ?_
            refine zx_goto (tgt := 80) dX10_adds_76 (by decide) ?_
            refine zy_top (b := zb (D 12 0 < 40)) (by first | exact (zb_t (by assumption)).symm | exact (zb_t (by omega)).symm | exact (zb_f (by omega)).symm | exact (zb_f (by assumption)).symm | exact (zb_f (fun q => q (by assumption))).symm) ?_
            refine zy_cv [zi (zb ((1 ≤ pg ∧ pg ≤ 999) ∧ ((if kd = 4 then 1450 else 0) ≤ vl ∧ vl ≤ mx) ∧ 1 ≤ wt ∧ wt ≤ 9)), zi (zb (D 12 0 < 40))] (sX10_passesBoth (A := ((1 ≤ pg ∧ pg ≤ 999) ∧ ((if kd = 4 then 1450 else 0) ≤ vl ∧ vl ≤ mx) ∧ 1 ≤ wt ∧ wt ≤ 9)) (B := (D 12 0 < 40)) hfl hz ) dX10_adds_80 (by decide) rfl cw_RX10_406 okX10_passesBoth rfl (Nat.le_of_ble_eq_true rfl) ⟨Nat.le_of_ble_eq_true rfl, Nat.le_of_ble_eq_true rfl, Nat.le_of_ble_eq_true rfl, Nat.le_of_ble_eq_true rfl⟩ ?_
            refine zy_cv [zi (zb (((1 ≤ pg ∧ pg ≤ 999) ∧ ((if kd = 4 then 1450 else 0) ≤ vl ∧ vl ≤ mx) ∧ 1 ≤ wt ∧ wt ≤ 9) ∧ (D 12 0 < 40)))] (sX10_tried_f (A := (((1 ≤ pg ∧ pg ≤ 999) ∧ ((if kd = 4 then 1450 else 0) ≤ vl ∧ vl ≤ mx) ∧ 1 ≤ wt ∧ wt ≤ 9) ∧ (D 12 0 < 40))) hfl (zOK_put hz (th2_r _ _)) (fun q => hw q.1)) dX10_adds_83 (by decide) rfl cw_RX10_449 okX10_tried rfl (Nat.le_of_ble_eq_true rfl) ⟨Nat.le_of_ble_eq_true rfl, Nat.le_of_ble_eq_true rfl, Nat.le_of_ble_eq_true rfl, Nat.le_of_ble_eq_true rfl⟩ ?_
            refine zx_if_eq (tgt := 105) (by first | exact hz _ _ | assumption | exact zr_b _ | exact zcmp_r _ _ | (unfold zr at *; omega)) dX10_adds_86 (by decide) (fun h86 => ?_) (fun h86 => ?_)
            · have h86 := zb_0.mp h86
              refine zx_iconst dX10_adds_105 ?_
              refine zx_iret rfl rfl dX10_adds_106 ?_
              rw [hQ]
              refine ⟨congrArg (fun z : Int => (Sum.inl (some (zi z)) : Option zV ⊕ String)) ?_, ?_⟩
              · rfl
              exact ⟨(zOK_put hz (th2_r _ _)), QP_th hR, (zput_s _ _ _ _).trans (th2_1 hw)⟩
            · have h86 := zb_n.mp h86
              exact absurd (by assumption : (((1 ≤ pg ∧ pg ≤ 999) ∧ ((if kd = 4 then 1450 else 0) ≤ vl ∧ vl ≤ mx) ∧ 1 ≤ wt ∧ wt ≤ 9)) ∧ D 12 0 < 40) (fun q => hw q.1)
        · have h50 := zb_n.mp h50
          refine zx_iconst dX10_adds_53 ?_
          refine zx_goto (tgt := 58) dX10_adds_54 (by decide) ?_
          refine zy_top (b := zb ((1 ≤ pg ∧ pg ≤ 999) ∧ ((if kd = 4 then 1450 else 0) ≤ vl ∧ vl ≤ mx) ∧ 1 ≤ wt ∧ wt ≤ 9)) (by first | exact (zb_t ⟨by assumption, by assumption, by assumption⟩).symm | exact (zb_f (fun q => absurd q.1 (by assumption))).symm | exact (zb_f (fun q => absurd q.2.1 (by assumption))).symm | exact (zb_f (fun q => absurd q.2.2 (by assumption))).symm) ?_
          refine zy_istore [zf 10 261, zi pg, zi kd, zi vl, zi wt, zi mx, zi (if kd = 4 then 1450 else 0), zi (zb ((1 ≤ pg ∧ pg ≤ 999) ∧ ((if kd = 4 then 1450 else 0) ≤ vl ∧ vl ≤ mx) ∧ 1 ≤ wt ∧ wt ≤ 9))] dX10_adds_58 (Nat.le_of_ble_eq_true rfl) (Nat.le_of_ble_eq_true rfl) rfl rfl ?_
          refine zx_aloadN dX10_adds_60 rfl rfl ?_
          refine zx_aloadN dX10_adds_61 rfl rfl ?_
          refine zx_iload dX10_adds_62 rfl ?_
          refine zx_aloadN dX10_adds_64 rfl rfl ?_
          refine zy_getR (q' := 262) fl_RX10_7 rfl dX10_adds_65 rfl ?_
          refine zx_iconst dX10_adds_68 ?_
          refine zy_iald (v := σ.1 262 3) rfl (by decide) (by decide) dX10_adds_69 (by omega) (by omega) rfl ?_
          refine zx_bipush dX10_adds_70 rfl ?_
          refine zx_icmp_ge (tgt := 79) (by first | exact hz _ _ | assumption | exact zr_b _ | exact zcmp_r _ _ | (unfold zr at *; omega)) (by first | exact hz _ _ | assumption | exact zr_b _ | exact zcmp_r _ _ | (unfold zr at *; omega)) dX10_adds_72 (by decide) (fun h72 => ?_) (fun h72 => ?_)
          · refine zx_iconst dX10_adds_79 ?_
            refine zy_top (b := zb (D 12 0 < 40)) (by first | exact (zb_t (by assumption)).symm | exact (zb_t (by omega)).symm | exact (zb_f (by omega)).symm | exact (zb_f (by assumption)).symm | exact (zb_f (fun q => q (by assumption))).symm) ?_
            refine zy_cv [zi (zb ((1 ≤ pg ∧ pg ≤ 999) ∧ ((if kd = 4 then 1450 else 0) ≤ vl ∧ vl ≤ mx) ∧ 1 ≤ wt ∧ wt ≤ 9)), zi (zb (D 12 0 < 40))] (sX10_passesBoth (A := ((1 ≤ pg ∧ pg ≤ 999) ∧ ((if kd = 4 then 1450 else 0) ≤ vl ∧ vl ≤ mx) ∧ 1 ≤ wt ∧ wt ≤ 9)) (B := (D 12 0 < 40)) hfl hz ) dX10_adds_80 (by decide) rfl cw_RX10_406 okX10_passesBoth rfl (Nat.le_of_ble_eq_true rfl) ⟨Nat.le_of_ble_eq_true rfl, Nat.le_of_ble_eq_true rfl, Nat.le_of_ble_eq_true rfl, Nat.le_of_ble_eq_true rfl⟩ ?_
            refine zy_cv [zi (zb (((1 ≤ pg ∧ pg ≤ 999) ∧ ((if kd = 4 then 1450 else 0) ≤ vl ∧ vl ≤ mx) ∧ 1 ≤ wt ∧ wt ≤ 9) ∧ (D 12 0 < 40)))] (sX10_tried_f (A := (((1 ≤ pg ∧ pg ≤ 999) ∧ ((if kd = 4 then 1450 else 0) ≤ vl ∧ vl ≤ mx) ∧ 1 ≤ wt ∧ wt ≤ 9) ∧ (D 12 0 < 40))) hfl (zOK_put hz (th2_r _ _)) (fun q => hw q.1)) dX10_adds_83 (by decide) rfl cw_RX10_449 okX10_tried rfl (Nat.le_of_ble_eq_true rfl) ⟨Nat.le_of_ble_eq_true rfl, Nat.le_of_ble_eq_true rfl, Nat.le_of_ble_eq_true rfl, Nat.le_of_ble_eq_true rfl⟩ ?_
            refine zx_if_eq (tgt := 105) (by first | exact hz _ _ | assumption | exact zr_b _ | exact zcmp_r _ _ | (unfold zr at *; omega)) dX10_adds_86 (by decide) (fun h86 => ?_) (fun h86 => ?_)
            · have h86 := zb_0.mp h86
              refine zx_iconst dX10_adds_105 ?_
              refine zx_iret rfl rfl dX10_adds_106 ?_
              rw [hQ]
              refine ⟨congrArg (fun z : Int => (Sum.inl (some (zi z)) : Option zV ⊕ String)) ?_, ?_⟩
              · rfl
              exact ⟨(zOK_put hz (th2_r _ _)), QP_th hR, (zput_s _ _ _ _).trans (th2_1 hw)⟩
            · have h86 := zb_n.mp h86
              exact absurd (by assumption : (((1 ≤ pg ∧ pg ≤ 999) ∧ ((if kd = 4 then 1450 else 0) ≤ vl ∧ vl ≤ mx) ∧ 1 ≤ wt ∧ wt ≤ 9)) ∧ D 12 0 < 40) (fun q => hw q.1)
          · refine zx_iconst dX10_adds_75 ?_
            refine zx_goto (tgt := 80) dX10_adds_76 (by decide) ?_
            refine zy_top (b := zb (D 12 0 < 40)) (by first | exact (zb_t (by assumption)).symm | exact (zb_t (by omega)).symm | exact (zb_f (by omega)).symm | exact (zb_f (by assumption)).symm | exact (zb_f (fun q => q (by assumption))).symm) ?_
            refine zy_cv [zi (zb ((1 ≤ pg ∧ pg ≤ 999) ∧ ((if kd = 4 then 1450 else 0) ≤ vl ∧ vl ≤ mx) ∧ 1 ≤ wt ∧ wt ≤ 9)), zi (zb (D 12 0 < 40))] (sX10_passesBoth (A := ((1 ≤ pg ∧ pg ≤ 999) ∧ ((if kd = 4 then 1450 else 0) ≤ vl ∧ vl ≤ mx) ∧ 1 ≤ wt ∧ wt ≤ 9)) (B := (D 12 0 < 40)) hfl hz ) dX10_adds_80 (by decide) rfl cw_RX10_406 okX10_passesBoth rfl (Nat.le_of_ble_eq_true rfl) ⟨Nat.le_of_ble_eq_true rfl, Nat.le_of_ble_eq_true rfl, Nat.le_of_ble_eq_true rfl, Nat.le_of_ble_eq_true rfl⟩ ?_
            refine zy_cv [zi (zb (((1 ≤ pg ∧ pg ≤ 999) ∧ ((if kd = 4 then 1450 else 0) ≤ vl ∧ vl ≤ mx) ∧ 1 ≤ wt ∧ wt ≤ 9) ∧ (D 12 0 < 40)))] (sX10_tried_f (A := (((1 ≤ pg ∧ pg ≤ 999) ∧ ((if kd = 4 then 1450 else 0) ≤ vl ∧ vl ≤ mx) ∧ 1 ≤ wt ∧ wt ≤ 9) ∧ (D 12 0 < 40))) hfl (zOK_put hz (th2_r _ _)) (fun q => hw q.1)) dX10_adds_83 (by decide) rfl cw_RX10_449 okX10_tried rfl (Nat.le_of_ble_eq_true rfl) ⟨Nat.le_of_ble_eq_true rfl, Nat.le_of_ble_eq_true rfl, Nat.le_of_ble_eq_true rfl, Nat.le_of_ble_eq_true rfl⟩ ?_
            refine zx_if_eq (tgt := 105) (by first | exact hz _ _ | assumption | exact zr_b _ | exact zcmp_r _ _ | (unfold zr at *; omega)) dX10_adds_86 (by decide) (fun h86 => ?_) (fun h86 => ?_)
            · have h86 := zb_0.mp h86
              refine zx_iconst dX10_adds_105 ?_
              refine zx_iret rfl rfl dX10_adds_106 ?_
              rw [hQ]
              refine ⟨congrArg (fun z : Int => (Sum.inl (some (zi z)) : Option zV ⊕ String)) ?_, ?_⟩
              · rfl
              exact ⟨(zOK_put hz (th2_r _ _)), QP_th hR, (zput_s _ _ _ _).trans (th2_1 hw)⟩
            · have h86 := zb_n.mp h86
              exact absurd (by assumption : (((1 ≤ pg ∧ pg ≤ 999) ∧ ((if kd = 4 then 1450 else 0) ≤ vl ∧ vl ≤ mx) ∧ 1 ≤ wt ∧ wt ≤ 9)) ∧ D 12 0 < 40) (fun q => hw q.1)
  · refine zx_sipush dX10_adds_5 rfl ?_
    refine zx_goto (tgt := 12) dX10_adds_8 (by decide) ?_
    refine zy_top (b := (if kd = 4 then 1450 else 0)) (by first | exact (if_pos (by assumption)).symm | exact (if_neg (by assumption)).symm) ?_
    refine zy_istore [zf 10 261, zi pg, zi kd, zi vl, zi wt, zi mx, zi (if kd = 4 then 1450 else 0), zu] dX10_adds_12 (Nat.le_of_ble_eq_true rfl) (Nat.le_of_ble_eq_true rfl) rfl rfl ?_
    refine zx_iloadN dX10_adds_14 rfl rfl ?_
    have zlo : zr (if kd = 4 then 1450 else 0) := by split <;> (unfold zr; omega)
    refine zx_i2l (by first | exact hz _ _ | assumption | exact zr_b _ | exact zcmp_r _ _ | (unfold zr at *; omega)) dX10_adds_15 ?_
    refine zx_lconst (a := 1) dX10_adds_16 rfl ?_
    refine zx_ldc2 (a := 999) dX10_adds_17 lk_RX10_445 ?_
    refine zy_cs [zl pg, zl 1, zl 999] (sX10_in  hfl hz (by first | exact hz _ _ | assumption | exact zr_b _ | exact zcmp_r _ _ | (unfold zr at *; omega)) (by first | exact hz _ _ | assumption | exact zr_b _ | exact zcmp_r _ _ | (unfold zr at *; omega)) (by first | exact hz _ _ | assumption | exact zr_b _ | exact zcmp_r _ _ | (unfold zr at *; omega))) dX10_adds_20 cw_RX10_74 okX10_in rfl (Nat.le_of_ble_eq_true rfl) ⟨Nat.le_of_ble_eq_true rfl, Nat.le_of_ble_eq_true rfl, Nat.le_of_ble_eq_true rfl, Nat.le_of_ble_eq_true rfl⟩ ?_
    refine zx_if_eq (tgt := 57) (by first | exact hz _ _ | assumption | exact zr_b _ | exact zcmp_r _ _ | (unfold zr at *; omega)) dX10_adds_23 (by decide) (fun h23 => ?_) (fun h23 => ?_)
    · have h23 := zb_0.mp h23
      refine zx_iconst dX10_adds_57 ?_
      refine zy_top (b := zb ((1 ≤ pg ∧ pg ≤ 999) ∧ ((if kd = 4 then 1450 else 0) ≤ vl ∧ vl ≤ mx) ∧ 1 ≤ wt ∧ wt ≤ 9)) (by first | exact (zb_t ⟨by assumption, by assumption, by assumption⟩).symm | exact (zb_f (fun q => absurd q.1 (by assumption))).symm | exact (zb_f (fun q => absurd q.2.1 (by assumption))).symm | exact (zb_f (fun q => absurd q.2.2 (by assumption))).symm) ?_
      refine zy_istore [zf 10 261, zi pg, zi kd, zi vl, zi wt, zi mx, zi (if kd = 4 then 1450 else 0), zi (zb ((1 ≤ pg ∧ pg ≤ 999) ∧ ((if kd = 4 then 1450 else 0) ≤ vl ∧ vl ≤ mx) ∧ 1 ≤ wt ∧ wt ≤ 9))] dX10_adds_58 (Nat.le_of_ble_eq_true rfl) (Nat.le_of_ble_eq_true rfl) rfl rfl ?_
      refine zx_aloadN dX10_adds_60 rfl rfl ?_
      refine zx_aloadN dX10_adds_61 rfl rfl ?_
      refine zx_iload dX10_adds_62 rfl ?_
      refine zx_aloadN dX10_adds_64 rfl rfl ?_
      refine zy_getR (q' := 262) fl_RX10_7 rfl dX10_adds_65 rfl ?_
      refine zx_iconst dX10_adds_68 ?_
      refine zy_iald (v := σ.1 262 3) rfl (by decide) (by decide) dX10_adds_69 (by omega) (by omega) rfl ?_
      refine zx_bipush dX10_adds_70 rfl ?_
      refine zx_icmp_ge (tgt := 79) (by first | exact hz _ _ | assumption | exact zr_b _ | exact zcmp_r _ _ | (unfold zr at *; omega)) (by first | exact hz _ _ | assumption | exact zr_b _ | exact zcmp_r _ _ | (unfold zr at *; omega)) dX10_adds_72 (by decide) (fun h72 => ?_) (fun h72 => ?_)
      · refine zx_iconst dX10_adds_79 ?_
        refine zy_top (b := zb (D 12 0 < 40)) (by first | exact (zb_t (by assumption)).symm | exact (zb_t (by omega)).symm | exact (zb_f (by omega)).symm | exact (zb_f (by assumption)).symm | exact (zb_f (fun q => q (by assumption))).symm) ?_
        refine zy_cv [zi (zb ((1 ≤ pg ∧ pg ≤ 999) ∧ ((if kd = 4 then 1450 else 0) ≤ vl ∧ vl ≤ mx) ∧ 1 ≤ wt ∧ wt ≤ 9)), zi (zb (D 12 0 < 40))] (sX10_passesBoth (A := ((1 ≤ pg ∧ pg ≤ 999) ∧ ((if kd = 4 then 1450 else 0) ≤ vl ∧ vl ≤ mx) ∧ 1 ≤ wt ∧ wt ≤ 9)) (B := (D 12 0 < 40)) hfl hz ) dX10_adds_80 (by decide) rfl cw_RX10_406 okX10_passesBoth rfl (Nat.le_of_ble_eq_true rfl) ⟨Nat.le_of_ble_eq_true rfl, Nat.le_of_ble_eq_true rfl, Nat.le_of_ble_eq_true rfl, Nat.le_of_ble_eq_true rfl⟩ ?_
        refine zy_cv [zi (zb (((1 ≤ pg ∧ pg ≤ 999) ∧ ((if kd = 4 then 1450 else 0) ≤ vl ∧ vl ≤ mx) ∧ 1 ≤ wt ∧ wt ≤ 9) ∧ (D 12 0 < 40)))] (sX10_tried_f (A := (((1 ≤ pg ∧ pg ≤ 999) ∧ ((if kd = 4 then 1450 else 0) ≤ vl ∧ vl ≤ mx) ∧ 1 ≤ wt ∧ wt ≤ 9) ∧ (D 12 0 < 40))) hfl (zOK_put hz (th2_r _ _)) (fun q => hw q.1)) dX10_adds_83 (by decide) rfl cw_RX10_449 okX10_tried rfl (Nat.le_of_ble_eq_true rfl) ⟨Nat.le_of_ble_eq_true rfl, Nat.le_of_ble_eq_true rfl, Nat.le_of_ble_eq_true rfl, Nat.le_of_ble_eq_true rfl⟩ ?_
        refine zx_if_eq (tgt := 105) (by first | exact hz _ _ | assumption | exact zr_b _ | exact zcmp_r _ _ | (unfold zr at *; omega)) dX10_adds_86 (by decide) (fun h86 => ?_) (fun h86 => ?_)
        · have h86 := zb_0.mp h86
          refine zx_iconst dX10_adds_105 ?_
          refine zx_iret rfl rfl dX10_adds_106 ?_
          rw [hQ]
          refine ⟨congrArg (fun z : Int => (Sum.inl (some (zi z)) : Option zV ⊕ String)) ?_, ?_⟩
          · rfl
          exact ⟨(zOK_put hz (th2_r _ _)), QP_th hR, (zput_s _ _ _ _).trans (th2_1 hw)⟩
        · have h86 := zb_n.mp h86
          exact absurd (by assumption : (((1 ≤ pg ∧ pg ≤ 999) ∧ ((if kd = 4 then 1450 else 0) ≤ vl ∧ vl ≤ mx) ∧ 1 ≤ wt ∧ wt ≤ 9)) ∧ D 12 0 < 40) (fun q => hw q.1)
      · refine zx_iconst dX10_adds_75 ?_
        refine zx_goto (tgt := 80) dX10_adds_76 (by decide) ?_
        refine zy_top (b := zb (D 12 0 < 40)) (by first | exact (zb_t (by assumption)).symm | exact (zb_t (by omega)).symm | exact (zb_f (by omega)).symm | exact (zb_f (by assumption)).symm | exact (zb_f (fun q => q (by assumption))).symm) ?_
        refine zy_cv [zi (zb ((1 ≤ pg ∧ pg ≤ 999) ∧ ((if kd = 4 then 1450 else 0) ≤ vl ∧ vl ≤ mx) ∧ 1 ≤ wt ∧ wt ≤ 9)), zi (zb (D 12 0 < 40))] (sX10_passesBoth (A := ((1 ≤ pg ∧ pg ≤ 999) ∧ ((if kd = 4 then 1450 else 0) ≤ vl ∧ vl ≤ mx) ∧ 1 ≤ wt ∧ wt ≤ 9)) (B := (D 12 0 < 40)) hfl hz ) dX10_adds_80 (by decide) rfl cw_RX10_406 okX10_passesBoth rfl (Nat.le_of_ble_eq_true rfl) ⟨Nat.le_of_ble_eq_true rfl, Nat.le_of_ble_eq_true rfl, Nat.le_of_ble_eq_true rfl, Nat.le_of_ble_eq_true rfl⟩ ?_
        refine zy_cv [zi (zb (((1 ≤ pg ∧ pg ≤ 999) ∧ ((if kd = 4 then 1450 else 0) ≤ vl ∧ vl ≤ mx) ∧ 1 ≤ wt ∧ wt ≤ 9) ∧ (D 12 0 < 40)))] (sX10_tried_f (A := (((1 ≤ pg ∧ pg ≤ 999) ∧ ((if kd = 4 then 1450 else 0) ≤ vl ∧ vl ≤ mx) ∧ 1 ≤ wt ∧ wt ≤ 9) ∧ (D 12 0 < 40))) hfl (zOK_put hz (th2_r _ _)) (fun q => hw q.1)) dX10_adds_83 (by decide) rfl cw_RX10_449 okX10_tried rfl (Nat.le_of_ble_eq_true rfl) ⟨Nat.le_of_ble_eq_true rfl, Nat.le_of_ble_eq_true rfl, Nat.le_of_ble_eq_true rfl, Nat.le_of_ble_eq_true rfl⟩ ?_
        refine zx_if_eq (tgt := 105) (by first | exact hz _ _ | assumption | exact zr_b _ | exact zcmp_r _ _ | (unfold zr at *; omega)) dX10_adds_86 (by decide) (fun h86 => ?_) (fun h86 => ?_)
        · have h86 := zb_0.mp h86
          refine zx_iconst dX10_adds_105 ?_
          refine zx_iret rfl rfl dX10_adds_106 ?_
          rw [hQ]
          refine ⟨congrArg (fun z : Int => (Sum.inl (some (zi z)) : Option zV ⊕ String)) ?_, ?_⟩
          · rfl
          exact ⟨(zOK_put hz (th2_r _ _)), QP_th hR, (zput_s _ _ _ _).trans (th2_1 hw)⟩
        · have h86 := zb_n.mp h86
          exact absurd (by assumption : (((1 ≤ pg ∧ pg ≤ 999) ∧ ((if kd = 4 then 1450 else 0) ≤ vl ∧ vl ≤ mx) ∧ 1 ≤ wt ∧ wt ≤ 9)) ∧ D 12 0 < 40) (fun q => hw q.1)
    · have h23 := zb_n.mp h23
      refine zx_iloadN dX10_adds_26 rfl rfl ?_
      refine zx_i2l (by first | exact hz _ _ | assumption | exact zr_b _ | exact zcmp_r _ _ | (unfold zr at *; omega)) dX10_adds_27 ?_
      refine zx_iload dX10_adds_28 rfl ?_
      refine zx_i2l (by first | exact hz _ _ | assumption | exact zr_b _ | exact zcmp_r _ _ | (unfold zr at *; omega)) dX10_adds_30 ?_
      refine zx_iload dX10_adds_31 rfl ?_
      refine zx_i2l (by first | exact hz _ _ | assumption | exact zr_b _ | exact zcmp_r _ _ | (unfold zr at *; omega)) dX10_adds_33 ?_
      refine zy_cs [zl vl, zl (if kd = 4 then 1450 else 0), zl mx] (sX10_in  hfl hz (by first | exact hz _ _ | assumption | exact zr_b _ | exact zcmp_r _ _ | (unfold zr at *; omega)) (by first | exact hz _ _ | assumption | exact zr_b _ | exact zcmp_r _ _ | (unfold zr at *; omega)) (by first | exact hz _ _ | assumption | exact zr_b _ | exact zcmp_r _ _ | (unfold zr at *; omega))) dX10_adds_34 cw_RX10_74 okX10_in rfl (Nat.le_of_ble_eq_true rfl) ⟨Nat.le_of_ble_eq_true rfl, Nat.le_of_ble_eq_true rfl, Nat.le_of_ble_eq_true rfl, Nat.le_of_ble_eq_true rfl⟩ ?_
      refine zx_if_eq (tgt := 57) (by first | exact hz _ _ | assumption | exact zr_b _ | exact zcmp_r _ _ | (unfold zr at *; omega)) dX10_adds_37 (by decide) (fun h37 => ?_) (fun h37 => ?_)
      · have h37 := zb_0.mp h37
        refine zx_iconst dX10_adds_57 ?_
        refine zy_top (b := zb ((1 ≤ pg ∧ pg ≤ 999) ∧ ((if kd = 4 then 1450 else 0) ≤ vl ∧ vl ≤ mx) ∧ 1 ≤ wt ∧ wt ≤ 9)) (by first | exact (zb_t ⟨by assumption, by assumption, by assumption⟩).symm | exact (zb_f (fun q => absurd q.1 (by assumption))).symm | exact (zb_f (fun q => absurd q.2.1 (by assumption))).symm | exact (zb_f (fun q => absurd q.2.2 (by assumption))).symm) ?_
        refine zy_istore [zf 10 261, zi pg, zi kd, zi vl, zi wt, zi mx, zi (if kd = 4 then 1450 else 0), zi (zb ((1 ≤ pg ∧ pg ≤ 999) ∧ ((if kd = 4 then 1450 else 0) ≤ vl ∧ vl ≤ mx) ∧ 1 ≤ wt ∧ wt ≤ 9))] dX10_adds_58 (Nat.le_of_ble_eq_true rfl) (Nat.le_of_ble_eq_true rfl) rfl rfl ?_
        refine zx_aloadN dX10_adds_60 rfl rfl ?_
        refine zx_aloadN dX10_adds_61 rfl rfl ?_
        refine zx_iload dX10_adds_62 rfl ?_
        refine zx_aloadN dX10_adds_64 rfl rfl ?_
        refine zy_getR (q' := 262) fl_RX10_7 rfl dX10_adds_65 rfl ?_
        refine zx_iconst dX10_adds_68 ?_
        refine zy_iald (v := σ.1 262 3) rfl (by decide) (by decide) dX10_adds_69 (by omega) (by omega) rfl ?_
        refine zx_bipush dX10_adds_70 rfl ?_
        refine zx_icmp_ge (tgt := 79) (by first | exact hz _ _ | assumption | exact zr_b _ | exact zcmp_r _ _ | (unfold zr at *; omega)) (by first | exact hz _ _ | assumption | exact zr_b _ | exact zcmp_r _ _ | (unfold zr at *; omega)) dX10_adds_72 (by decide) (fun h72 => ?_) (fun h72 => ?_)
        · refine zx_iconst dX10_adds_79 ?_
          refine zy_top (b := zb (D 12 0 < 40)) (by first | exact (zb_t (by assumption)).symm | exact (zb_t (by omega)).symm | exact (zb_f (by omega)).symm | exact (zb_f (by assumption)).symm | exact (zb_f (fun q => q (by assumption))).symm) ?_
          refine zy_cv [zi (zb ((1 ≤ pg ∧ pg ≤ 999) ∧ ((if kd = 4 then 1450 else 0) ≤ vl ∧ vl ≤ mx) ∧ 1 ≤ wt ∧ wt ≤ 9)), zi (zb (D 12 0 < 40))] (sX10_passesBoth (A := ((1 ≤ pg ∧ pg ≤ 999) ∧ ((if kd = 4 then 1450 else 0) ≤ vl ∧ vl ≤ mx) ∧ 1 ≤ wt ∧ wt ≤ 9)) (B := (D 12 0 < 40)) hfl hz ) dX10_adds_80 (by decide) rfl cw_RX10_406 okX10_passesBoth rfl (Nat.le_of_ble_eq_true rfl) ⟨Nat.le_of_ble_eq_true rfl, Nat.le_of_ble_eq_true rfl, Nat.le_of_ble_eq_true rfl, Nat.le_of_ble_eq_true rfl⟩ ?_
          refine zy_cv [zi (zb (((1 ≤ pg ∧ pg ≤ 999) ∧ ((if kd = 4 then 1450 else 0) ≤ vl ∧ vl ≤ mx) ∧ 1 ≤ wt ∧ wt ≤ 9) ∧ (D 12 0 < 40)))] (sX10_tried_f (A := (((1 ≤ pg ∧ pg ≤ 999) ∧ ((if kd = 4 then 1450 else 0) ≤ vl ∧ vl ≤ mx) ∧ 1 ≤ wt ∧ wt ≤ 9) ∧ (D 12 0 < 40))) hfl (zOK_put hz (th2_r _ _)) (fun q => hw q.1)) dX10_adds_83 (by decide) rfl cw_RX10_449 okX10_tried rfl (Nat.le_of_ble_eq_true rfl) ⟨Nat.le_of_ble_eq_true rfl, Nat.le_of_ble_eq_true rfl, Nat.le_of_ble_eq_true rfl, Nat.le_of_ble_eq_true rfl⟩ ?_
          refine zx_if_eq (tgt := 105) (by first | exact hz _ _ | assumption | exact zr_b _ | exact zcmp_r _ _ | (unfold zr at *; omega)) dX10_adds_86 (by decide) (fun h86 => ?_) (fun h86 => ?_)
          · have h86 := zb_0.mp h86
            refine zx_iconst dX10_adds_105 ?_
            refine zx_iret rfl rfl dX10_adds_106 ?_
            rw [hQ]
            refine ⟨congrArg (fun z : Int => (Sum.inl (some (zi z)) : Option zV ⊕ String)) ?_, ?_⟩
            · rfl
            exact ⟨(zOK_put hz (th2_r _ _)), QP_th hR, (zput_s _ _ _ _).trans (th2_1 hw)⟩
          · have h86 := zb_n.mp h86
            exact absurd (by assumption : (((1 ≤ pg ∧ pg ≤ 999) ∧ ((if kd = 4 then 1450 else 0) ≤ vl ∧ vl ≤ mx) ∧ 1 ≤ wt ∧ wt ≤ 9)) ∧ D 12 0 < 40) (fun q => hw q.1)
        · refine zx_iconst dX10_adds_75 ?_
          refine zx_goto (tgt := 80) dX10_adds_76 (by decide) ?_
          refine zy_top (b := zb (D 12 0 < 40)) (by first | exact (zb_t (by assumption)).symm | exact (zb_t (by omega)).symm | exact (zb_f (by omega)).symm | exact (zb_f (by assumption)).symm | exact (zb_f (fun q => q (by assumption))).symm) ?_
          refine zy_cv [zi (zb ((1 ≤ pg ∧ pg ≤ 999) ∧ ((if kd = 4 then 1450 else 0) ≤ vl ∧ vl ≤ mx) ∧ 1 ≤ wt ∧ wt ≤ 9)), zi (zb (D 12 0 < 40))] (sX10_passesBoth (A := ((1 ≤ pg ∧ pg ≤ 999) ∧ ((if kd = 4 then 1450 else 0) ≤ vl ∧ vl ≤ mx) ∧ 1 ≤ wt ∧ wt ≤ 9)) (B := (D 12 0 < 40)) hfl hz ) dX10_adds_80 (by decide) rfl cw_RX10_406 okX10_passesBoth rfl (Nat.le_of_ble_eq_true rfl) ⟨Nat.le_of_ble_eq_true rfl, Nat.le_of_ble_eq_true rfl, Nat.le_of_ble_eq_true rfl, Nat.le_of_ble_eq_true rfl⟩ ?_
          refine zy_cv [zi (zb (((1 ≤ pg ∧ pg ≤ 999) ∧ ((if kd = 4 then 1450 else 0) ≤ vl ∧ vl ≤ mx) ∧ 1 ≤ wt ∧ wt ≤ 9) ∧ (D 12 0 < 40)))] (sX10_tried_f (A := (((1 ≤ pg ∧ pg ≤ 999) ∧ ((if kd = 4 then 1450 else 0) ≤ vl ∧ vl ≤ mx) ∧ 1 ≤ wt ∧ wt ≤ 9) ∧ (D 12 0 < 40))) hfl (zOK_put hz (th2_r _ _)) (fun q => hw q.1)) dX10_adds_83 (by decide) rfl cw_RX10_449 okX10_tried rfl (Nat.le_of_ble_eq_true rfl) ⟨Nat.le_of_ble_eq_true rfl, Nat.le_of_ble_eq_true rfl, Nat.le_of_ble_eq_true rfl, Nat.le_of_ble_eq_true rfl⟩ ?_
          refine zx_if_eq (tgt := 105) (by first | exact hz _ _ | assumption | exact zr_b _ | exact zcmp_r _ _ | (unfold zr at *; omega)) dX10_adds_86 (by decide) (fun h86 => ?_) (fun h86 => ?_)
          · have h86 := zb_0.mp h86
            refine zx_iconst dX10_adds_105 ?_
            refine zx_iret rfl rfl dX10_adds_106 ?_
            rw [hQ]
            refine ⟨congrArg (fun z : Int => (Sum.inl (some (zi z)) : Option zV ⊕ String)) ?_, ?_⟩
            · rfl
            exact ⟨(zOK_put hz (th2_r _ _)), QP_th hR, (zput_s _ _ _ _).trans (th2_1 hw)⟩
          · have h86 := zb_n.mp h86
            exact absurd (by assumption : (((1 ≤ pg ∧ pg ≤ 999) ∧ ((if kd = 4 then 1450 else 0) ≤ vl ∧ vl ≤ mx) ∧ 1 ≤ wt ∧ wt ≤ 9)) ∧ D 12 0 < 40) (fun q => hw q.1)
      · have h37 := zb_n.mp h37
        refine zx_iload dX10_adds_40 rfl ?_
        refine zx_i2l (by first | exact hz _ _ | assumption | exact zr_b _ | exact zcmp_r _ _ | (unfold zr at *; omega)) dX10_adds_42 ?_
        refine zx_lconst (a := 1) dX10_adds_43 rfl ?_
        refine zx_ldc2 (a := 9) dX10_adds_44 lk_RX10_447 ?_
        refine zy_cs [zl wt, zl 1, zl 9] (sX10_in  hfl hz (by first | exact hz _ _ | assumption | exact zr_b _ | exact zcmp_r _ _ | (unfold zr at *; omega)) (by first | exact hz _ _ | assumption | exact zr_b _ | exact zcmp_r _ _ | (unfold zr at *; omega)) (by first | exact hz _ _ | assumption | exact zr_b _ | exact zcmp_r _ _ | (unfold zr at *; omega))) dX10_adds_47 cw_RX10_74 okX10_in rfl (Nat.le_of_ble_eq_true rfl) ⟨Nat.le_of_ble_eq_true rfl, Nat.le_of_ble_eq_true rfl, Nat.le_of_ble_eq_true rfl, Nat.le_of_ble_eq_true rfl⟩ ?_
        refine zx_if_eq (tgt := 57) (by first | exact hz _ _ | assumption | exact zr_b _ | exact zcmp_r _ _ | (unfold zr at *; omega)) dX10_adds_50 (by decide) (fun h50 => ?_) (fun h50 => ?_)
        · have h50 := zb_0.mp h50
          refine zx_iconst dX10_adds_57 ?_
          refine zy_top (b := zb ((1 ≤ pg ∧ pg ≤ 999) ∧ ((if kd = 4 then 1450 else 0) ≤ vl ∧ vl ≤ mx) ∧ 1 ≤ wt ∧ wt ≤ 9)) (by first | exact (zb_t ⟨by assumption, by assumption, by assumption⟩).symm | exact (zb_f (fun q => absurd q.1 (by assumption))).symm | exact (zb_f (fun q => absurd q.2.1 (by assumption))).symm | exact (zb_f (fun q => absurd q.2.2 (by assumption))).symm) ?_
          refine zy_istore [zf 10 261, zi pg, zi kd, zi vl, zi wt, zi mx, zi (if kd = 4 then 1450 else 0), zi (zb ((1 ≤ pg ∧ pg ≤ 999) ∧ ((if kd = 4 then 1450 else 0) ≤ vl ∧ vl ≤ mx) ∧ 1 ≤ wt ∧ wt ≤ 9))] dX10_adds_58 (Nat.le_of_ble_eq_true rfl) (Nat.le_of_ble_eq_true rfl) rfl rfl ?_
          refine zx_aloadN dX10_adds_60 rfl rfl ?_
          refine zx_aloadN dX10_adds_61 rfl rfl ?_
          refine zx_iload dX10_adds_62 rfl ?_
          refine zx_aloadN dX10_adds_64 rfl rfl ?_
          refine zy_getR (q' := 262) fl_RX10_7 rfl dX10_adds_65 rfl ?_
          refine zx_iconst dX10_adds_68 ?_
          refine zy_iald (v := σ.1 262 3) rfl (by decide) (by decide) dX10_adds_69 (by omega) (by omega) rfl ?_
          refine zx_bipush dX10_adds_70 rfl ?_
          refine zx_icmp_ge (tgt := 79) (by first | exact hz _ _ | assumption | exact zr_b _ | exact zcmp_r _ _ | (unfold zr at *; omega)) (by first | exact hz _ _ | assumption | exact zr_b _ | exact zcmp_r _ _ | (unfold zr at *; omega)) dX10_adds_72 (by decide) (fun h72 => ?_) (fun h72 => ?_)
          · refine zx_iconst dX10_adds_79 ?_
            refine zy_top (b := zb (D 12 0 < 40)) (by first | exact (zb_t (by assumption)).symm | exact (zb_t (by omega)).symm | exact (zb_f (by omega)).symm | exact (zb_f (by assumption)).symm | exact (zb_f (fun q => q (by assumption))).symm) ?_
            refine zy_cv [zi (zb ((1 ≤ pg ∧ pg ≤ 999) ∧ ((if kd = 4 then 1450 else 0) ≤ vl ∧ vl ≤ mx) ∧ 1 ≤ wt ∧ wt ≤ 9)), zi (zb (D 12 0 < 40))] (sX10_passesBoth (A := ((1 ≤ pg ∧ pg ≤ 999) ∧ ((if kd = 4 then 1450 else 0) ≤ vl ∧ vl ≤ mx) ∧ 1 ≤ wt ∧ wt ≤ 9)) (B := (D 12 0 < 40)) hfl hz ) dX10_adds_80 (by decide) rfl cw_RX10_406 okX10_passesBoth rfl (Nat.le_of_ble_eq_true rfl) ⟨Nat.le_of_ble_eq_true rfl, Nat.le_of_ble_eq_true rfl, Nat.le_of_ble_eq_true rfl, Nat.le_of_ble_eq_true rfl⟩ ?_
            refine zy_cv [zi (zb (((1 ≤ pg ∧ pg ≤ 999) ∧ ((if kd = 4 then 1450 else 0) ≤ vl ∧ vl ≤ mx) ∧ 1 ≤ wt ∧ wt ≤ 9) ∧ (D 12 0 < 40)))] (sX10_tried_f (A := (((1 ≤ pg ∧ pg ≤ 999) ∧ ((if kd = 4 then 1450 else 0) ≤ vl ∧ vl ≤ mx) ∧ 1 ≤ wt ∧ wt ≤ 9) ∧ (D 12 0 < 40))) hfl (zOK_put hz (th2_r _ _)) (fun q => hw q.1)) dX10_adds_83 (by decide) rfl cw_RX10_449 okX10_tried rfl (Nat.le_of_ble_eq_true rfl) ⟨Nat.le_of_ble_eq_true rfl, Nat.le_of_ble_eq_true rfl, Nat.le_of_ble_eq_true rfl, Nat.le_of_ble_eq_true rfl⟩ ?_
            refine zx_if_eq (tgt := 105) (by first | exact hz _ _ | assumption | exact zr_b _ | exact zcmp_r _ _ | (unfold zr at *; omega)) dX10_adds_86 (by decide) (fun h86 => ?_) (fun h86 => ?_)
            · have h86 := zb_0.mp h86
              refine zx_iconst dX10_adds_105 ?_
              refine zx_iret rfl rfl dX10_adds_106 ?_
              rw [hQ]
              refine ⟨congrArg (fun z : Int => (Sum.inl (some (zi z)) : Option zV ⊕ String)) ?_, ?_⟩
              · rfl
              exact ⟨(zOK_put hz (th2_r _ _)), QP_th hR, (zput_s _ _ _ _).trans (th2_1 hw)⟩
            · have h86 := zb_n.mp h86
              exact absurd (by assumption : (((1 ≤ pg ∧ pg ≤ 999) ∧ ((if kd = 4 then 1450 else 0) ≤ vl ∧ vl ≤ mx) ∧ 1 ≤ wt ∧ wt ≤ 9)) ∧ D 12 0 < 40) (fun q => hw q.1)
          · refine zx_iconst dX10_adds_75 ?_
            refine zx_goto (tgt := 80) dX10_adds_76 (by decide) ?_
            refine zy_top (b := zb (D 12 0 < 40)) (by first | exact (zb_t (by assumption)).symm | exact (zb_t (by omega)).symm | exact (zb_f (by omega)).symm | exact (zb_f (by assumption)).symm | exact (zb_f (fun q => q (by assumption))).symm) ?_
            refine zy_cv [zi (zb ((1 ≤ pg ∧ pg ≤ 999) ∧ ((if kd = 4 then 1450 else 0) ≤ vl ∧ vl ≤ mx) ∧ 1 ≤ wt ∧ wt ≤ 9)), zi (zb (D 12 0 < 40))] (sX10_passesBoth (A := ((1 ≤ pg ∧ pg ≤ 999) ∧ ((if kd = 4 then 1450 else 0) ≤ vl ∧ vl ≤ mx) ∧ 1 ≤ wt ∧ wt ≤ 9)) (B := (D 12 0 < 40)) hfl hz ) dX10_adds_80 (by decide) rfl cw_RX10_406 okX10_passesBoth rfl (Nat.le_of_ble_eq_true rfl) ⟨Nat.le_of_ble_eq_true rfl, Nat.le_of_ble_eq_true rfl, Nat.le_of_ble_eq_true rfl, Nat.le_of_ble_eq_true rfl⟩ ?_
            refine zy_cv [zi (zb (((1 ≤ pg ∧ pg ≤ 999) ∧ ((if kd = 4 then 1450 else 0) ≤ vl ∧ vl ≤ mx) ∧ 1 ≤ wt ∧ wt ≤ 9) ∧ (D 12 0 < 40)))] (sX10_tried_f (A := (((1 ≤ pg ∧ pg ≤ 999) ∧ ((if kd = 4 then 1450 else 0) ≤ vl ∧ vl ≤ mx) ∧ 1 ≤ wt ∧ wt ≤ 9) ∧ (D 12 0 < 40))) hfl (zOK_put hz (th2_r _ _)) (fun q => hw q.1)) dX10_adds_83 (by decide) rfl cw_RX10_449 okX10_tried rfl (Nat.le_of_ble_eq_true rfl) ⟨Nat.le_of_ble_eq_true rfl, Nat.le_of_ble_eq_true rfl, Nat.le_of_ble_eq_true rfl, Nat.le_of_ble_eq_true rfl⟩ ?_
            refine zx_if_eq (tgt := 105) (by first | exact hz _ _ | assumption | exact zr_b _ | exact zcmp_r _ _ | (unfold zr at *; omega)) dX10_adds_86 (by decide) (fun h86 => ?_) (fun h86 => ?_)
            · have h86 := zb_0.mp h86
              refine zx_iconst dX10_adds_105 ?_
              refine zx_iret rfl rfl dX10_adds_106 ?_
              rw [hQ]
              refine ⟨congrArg (fun z : Int => (Sum.inl (some (zi z)) : Option zV ⊕ String)) ?_, ?_⟩
              · rfl
              exact ⟨(zOK_put hz (th2_r _ _)), QP_th hR, (zput_s _ _ _ _).trans (th2_1 hw)⟩
            · have h86 := zb_n.mp h86
              exact absurd (by assumption : (((1 ≤ pg ∧ pg ≤ 999) ∧ ((if kd = 4 then 1450 else 0) ≤ vl ∧ vl ≤ mx) ∧ 1 ≤ wt ∧ wt ≤ 9)) ∧ D 12 0 < 40) (fun q => hw q.1)
        · have h50 := zb_n.mp h50
          refine zx_iconst dX10_adds_53 ?_
          refine zx_goto (tgt := 58) dX10_adds_54 (by decide) ?_
          refine zy_top (b := zb ((1 ≤ pg ∧ pg ≤ 999) ∧ ((if kd = 4 then 1450 else 0) ≤ vl ∧ vl ≤ mx) ∧ 1 ≤ wt ∧ wt ≤ 9)) (by first | exact (zb_t ⟨by assumption, by assumption, by assumption⟩).symm | exact (zb_f (fun q => absurd q.1 (by assumption))).symm | exact (zb_f (fun q => absurd q.2.1 (by assumption))).symm | exact (zb_f (fun q => absurd q.2.2 (by assumption))).symm) ?_
          refine zy_istore [zf 10 261, zi pg, zi kd, zi vl, zi wt, zi mx, zi (if kd = 4 then 1450 else 0), zi (zb ((1 ≤ pg ∧ pg ≤ 999) ∧ ((if kd = 4 then 1450 else 0) ≤ vl ∧ vl ≤ mx) ∧ 1 ≤ wt ∧ wt ≤ 9))] dX10_adds_58 (Nat.le_of_ble_eq_true rfl) (Nat.le_of_ble_eq_true rfl) rfl rfl ?_
          refine zx_aloadN dX10_adds_60 rfl rfl ?_
          refine zx_aloadN dX10_adds_61 rfl rfl ?_
          refine zx_iload dX10_adds_62 rfl ?_
          refine zx_aloadN dX10_adds_64 rfl rfl ?_
          refine zy_getR (q' := 262) fl_RX10_7 rfl dX10_adds_65 rfl ?_
          refine zx_iconst dX10_adds_68 ?_
          refine zy_iald (v := σ.1 262 3) rfl (by decide) (by decide) dX10_adds_69 (by omega) (by omega) rfl ?_
          refine zx_bipush dX10_adds_70 rfl ?_
          refine zx_icmp_ge (tgt := 79) (by first | exact hz _ _ | assumption | exact zr_b _ | exact zcmp_r _ _ | (unfold zr at *; omega)) (by first | exact hz _ _ | assumption | exact zr_b _ | exact zcmp_r _ _ | (unfold zr at *; omega)) dX10_adds_72 (by decide) (fun h72 => ?_) (fun h72 => ?_)
          · refine zx_iconst dX10_adds_79 ?_
            refine zy_top (b := zb (D 12 0 < 40)) (by first | exact (zb_t (by assumption)).symm | exact (zb_t (by omega)).symm | exact (zb_f (by omega)).symm | exact (zb_f (by assumption)).symm | exact (zb_f (fun q => q (by assumption))).symm) ?_
            refine zy_cv [zi (zb ((1 ≤ pg ∧ pg ≤ 999) ∧ ((if kd = 4 then 1450 else 0) ≤ vl ∧ vl ≤ mx) ∧ 1 ≤ wt ∧ wt ≤ 9)), zi (zb (D 12 0 < 40))] (sX10_passesBoth (A := ((1 ≤ pg ∧ pg ≤ 999) ∧ ((if kd = 4 then 1450 else 0) ≤ vl ∧ vl ≤ mx) ∧ 1 ≤ wt ∧ wt ≤ 9)) (B := (D 12 0 < 40)) hfl hz ) dX10_adds_80 (by decide) rfl cw_RX10_406 okX10_passesBoth rfl (Nat.le_of_ble_eq_true rfl) ⟨Nat.le_of_ble_eq_true rfl, Nat.le_of_ble_eq_true rfl, Nat.le_of_ble_eq_true rfl, Nat.le_of_ble_eq_true rfl⟩ ?_
            refine zy_cv [zi (zb (((1 ≤ pg ∧ pg ≤ 999) ∧ ((if kd = 4 then 1450 else 0) ≤ vl ∧ vl ≤ mx) ∧ 1 ≤ wt ∧ wt ≤ 9) ∧ (D 12 0 < 40)))] (sX10_tried_f (A := (((1 ≤ pg ∧ pg ≤ 999) ∧ ((if kd = 4 then 1450 else 0) ≤ vl ∧ vl ≤ mx) ∧ 1 ≤ wt ∧ wt ≤ 9) ∧ (D 12 0 < 40))) hfl (zOK_put hz (th2_r _ _)) (fun q => hw q.1)) dX10_adds_83 (by decide) rfl cw_RX10_449 okX10_tried rfl (Nat.le_of_ble_eq_true rfl) ⟨Nat.le_of_ble_eq_true rfl, Nat.le_of_ble_eq_true rfl, Nat.le_of_ble_eq_true rfl, Nat.le_of_ble_eq_true rfl⟩ ?_
            refine zx_if_eq (tgt := 105) (by first | exact hz _ _ | assumption | exact zr_b _ | exact zcmp_r _ _ | (unfold zr at *; omega)) dX10_adds_86 (by decide) (fun h86 => ?_) (fun h86 => ?_)
            · have h86 := zb_0.mp h86
              refine zx_iconst dX10_adds_105 ?_
              refine zx_iret rfl rfl dX10_adds_106 ?_
              rw [hQ]
              refine ⟨congrArg (fun z : Int => (Sum.inl (some (zi z)) : Option zV ⊕ String)) ?_, ?_⟩
              · rfl
              exact ⟨(zOK_put hz (th2_r _ _)), QP_th hR, (zput_s _ _ _ _).trans (th2_1 hw)⟩
            · have h86 := zb_n.mp h86
              exact absurd (by assumption : (((1 ≤ pg ∧ pg ≤ 999) ∧ ((if kd = 4 then 1450 else 0) ≤ vl ∧ vl ≤ mx) ∧ 1 ≤ wt ∧ wt ≤ 9)) ∧ D 12 0 < 40) (fun q => hw q.1)
          · refine zx_iconst dX10_adds_75 ?_
            refine zx_goto (tgt := 80) dX10_adds_76 (by decide) ?_
            refine zy_top (b := zb (D 12 0 < 40)) (by first | exact (zb_t (by assumption)).symm | exact (zb_t (by omega)).symm | exact (zb_f (by omega)).symm | exact (zb_f (by assumption)).symm | exact (zb_f (fun q => q (by assumption))).symm) ?_
            refine zy_cv [zi (zb ((1 ≤ pg ∧ pg ≤ 999) ∧ ((if kd = 4 then 1450 else 0) ≤ vl ∧ vl ≤ mx) ∧ 1 ≤ wt ∧ wt ≤ 9)), zi (zb (D 12 0 < 40))] (sX10_passesBoth (A := ((1 ≤ pg ∧ pg ≤ 999) ∧ ((if kd = 4 then 1450 else 0) ≤ vl ∧ vl ≤ mx) ∧ 1 ≤ wt ∧ wt ≤ 9)) (B := (D 12 0 < 40)) hfl hz ) dX10_adds_80 (by decide) rfl cw_RX10_406 okX10_passesBoth rfl (Nat.le_of_ble_eq_true rfl) ⟨Nat.le_of_ble_eq_true rfl, Nat.le_of_ble_eq_true rfl, Nat.le_of_ble_eq_true rfl, Nat.le_of_ble_eq_true rfl⟩ ?_
            refine zy_cv [zi (zb (((1 ≤ pg ∧ pg ≤ 999) ∧ ((if kd = 4 then 1450 else 0) ≤ vl ∧ vl ≤ mx) ∧ 1 ≤ wt ∧ wt ≤ 9) ∧ (D 12 0 < 40)))] (sX10_tried_f (A := (((1 ≤ pg ∧ pg ≤ 999) ∧ ((if kd = 4 then 1450 else 0) ≤ vl ∧ vl ≤ mx) ∧ 1 ≤ wt ∧ wt ≤ 9) ∧ (D 12 0 < 40))) hfl (zOK_put hz (th2_r _ _)) (fun q => hw q.1)) dX10_adds_83 (by decide) rfl cw_RX10_449 okX10_tried rfl (Nat.le_of_ble_eq_true rfl) ⟨Nat.le_of_ble_eq_true rfl, Nat.le_of_ble_eq_true rfl, Nat.le_of_ble_eq_true rfl, Nat.le_of_ble_eq_true rfl⟩ ?_
            refine zx_if_eq (tgt := 105) (by first | exact hz _ _ | assumption | exact zr_b _ | exact zcmp_r _ _ | (unfold zr at *; omega)) dX10_adds_86 (by decide) (fun h86 => ?_) (fun h86 => ?_)
            · have h86 := zb_0.mp h86
              refine zx_iconst dX10_adds_105 ?_
              refine zx_iret rfl rfl dX10_adds_106 ?_
              rw [hQ]
              refine ⟨congrArg (fun z : Int => (Sum.inl (some (zi z)) : Option zV ⊕ String)) ?_, ?_⟩
              · rfl
              exact ⟨(zOK_put hz (th2_r _ _)), QP_th hR, (zput_s _ _ _ _).trans (th2_1 hw)⟩
            · have h86 := zb_n.mp h86
              exact absurd (by assumption : (((1 ≤ pg ∧ pg ≤ 999) ∧ ((if kd = 4 then 1450 else 0) ≤ vl ∧ vl ≤ mx) ∧ 1 ≤ wt ∧ wt ≤ 9)) ∧ D 12 0 < 40) (fun q => hw q.1)
set_option maxRecDepth 20000 in
set_option maxHeartbeats 2000000 in
theorem sX10_adds_t2 {l : Launch} {w : zW} (hfl : l.stackTraces = false) {σ : zS} {D : zBk} {pg kd vl wt mx : Int} (hz : zOK σ) (hW : WF D) (hR : Rel D (σ.1 262)) (h1 : zr pg) (h2 : zr kd) (h3 : zr vl) (h4 : zr wt) (h5m : zr mx) (hw : (1 ≤ pg ∧ pg ≤ 999) ∧ ((if kd = 4 then 1450 else 0) ≤ vl ∧ vl ≤ mx) ∧ 1 ≤ wt ∧ wt ≤ 9) (hw2 : ¬ (D 12 0 < 40)) : Sp l w mX10_adds 3 0 [zf 10 261, zi pg, zi kd, zi vl, zi wt, zi mx] σ (zqv (some (zi 0)) (fun τ => zOK τ ∧ QP D σ τ ∧ τ.1 261 6 = 2)) := by
  obtain ⟨Q, hQ⟩ : ∃ Q : zQ, Q = (zqv (some (zi 0)) (fun τ => zOK τ ∧ QP D σ τ ∧ τ.1 261 6 = 2)) := ⟨_, rfl⟩
  rw [← hQ]
  refine zx_enter hfl (by decide) rfl 2 rfl ?_
  show zX l w mX10_adds (zMQ w 3 0 Q) 0 [zf 10 261, zi pg, zi kd, zi vl, zi wt, zi mx, zu, zu] [] 0 σ
  have hP : 0 ≤ D 1 0 ∧ D 1 0 ≤ 8 := hW.1.1
  have hM : 0 ≤ D 1 7 ∧ D 1 7 ≤ 8 := hW.1.2.1
  have hE : 0 ≤ D 1 10 ∧ D 1 10 ≤ 12 := hW.1.2.2.1
  have hK : 0 ≤ D 12 0 ∧ D 12 0 ≤ 40 := hW.1.2.2.2
  have r0 : σ.1 262 0 = D 1 0 := hR.1.1
  have r1 : σ.1 262 1 = D 1 7 := hR.1.2.1
  have r2 : σ.1 262 2 = D 1 10 := hR.1.2.2.1
  have r3 : σ.1 262 3 = D 12 0 := hR.1.2.2.2
  refine zx_iloadN dX10_adds_0 rfl rfl ?_
  refine zx_iconst dX10_adds_1 ?_
  refine zx_icmp_ne (tgt := 11) (by first | exact hz _ _ | assumption | exact zr_b _ | exact zcmp_r _ _ | (unfold zr at *; omega)) (by first | exact hz _ _ | assumption | exact zr_b _ | exact zcmp_r _ _ | (unfold zr at *; omega)) dX10_adds_2 (by decide) (fun h2 => ?_) (fun h2 => ?_)
  · refine zx_iconst dX10_adds_11 ?_
    refine zy_top (b := (if kd = 4 then 1450 else 0)) (by first | exact (if_pos (by assumption)).symm | exact (if_neg (by assumption)).symm) ?_
    refine zy_istore [zf 10 261, zi pg, zi kd, zi vl, zi wt, zi mx, zi (if kd = 4 then 1450 else 0), zu] dX10_adds_12 (Nat.le_of_ble_eq_true rfl) (Nat.le_of_ble_eq_true rfl) rfl rfl ?_
    refine zx_iloadN dX10_adds_14 rfl rfl ?_
    have zlo : zr (if kd = 4 then 1450 else 0) := by split <;> (unfold zr; omega)
    refine zx_i2l (by first | exact hz _ _ | assumption | exact zr_b _ | exact zcmp_r _ _ | (unfold zr at *; omega)) dX10_adds_15 ?_
    refine zx_lconst (a := 1) dX10_adds_16 rfl ?_
    refine zx_ldc2 (a := 999) dX10_adds_17 lk_RX10_445 ?_
    refine zy_cs [zl pg, zl 1, zl 999] (sX10_in  hfl hz (by first | exact hz _ _ | assumption | exact zr_b _ | exact zcmp_r _ _ | (unfold zr at *; omega)) (by first | exact hz _ _ | assumption | exact zr_b _ | exact zcmp_r _ _ | (unfold zr at *; omega)) (by first | exact hz _ _ | assumption | exact zr_b _ | exact zcmp_r _ _ | (unfold zr at *; omega))) dX10_adds_20 cw_RX10_74 okX10_in rfl (Nat.le_of_ble_eq_true rfl) ⟨Nat.le_of_ble_eq_true rfl, Nat.le_of_ble_eq_true rfl, Nat.le_of_ble_eq_true rfl, Nat.le_of_ble_eq_true rfl⟩ ?_
    refine zx_if_eq (tgt := 57) (by first | exact hz _ _ | assumption | exact zr_b _ | exact zcmp_r _ _ | (unfold zr at *; omega)) dX10_adds_23 (by decide) (fun h23 => ?_) (fun h23 => ?_)
    · have h23 := zb_0.mp h23
      refine zx_iconst dX10_adds_57 ?_
      refine zy_top (b := zb ((1 ≤ pg ∧ pg ≤ 999) ∧ ((if kd = 4 then 1450 else 0) ≤ vl ∧ vl ≤ mx) ∧ 1 ≤ wt ∧ wt ≤ 9)) (by first | exact (zb_t ⟨by assumption, by assumption, by assumption⟩).symm | exact (zb_f (fun q => absurd q.1 (by assumption))).symm | exact (zb_f (fun q => absurd q.2.1 (by assumption))).symm | exact (zb_f (fun q => absurd q.2.2 (by assumption))).symm) ?_
      refine zy_istore [zf 10 261, zi pg, zi kd, zi vl, zi wt, zi mx, zi (if kd = 4 then 1450 else 0), zi (zb ((1 ≤ pg ∧ pg ≤ 999) ∧ ((if kd = 4 then 1450 else 0) ≤ vl ∧ vl ≤ mx) ∧ 1 ≤ wt ∧ wt ≤ 9))] dX10_adds_58 (Nat.le_of_ble_eq_true rfl) (Nat.le_of_ble_eq_true rfl) rfl rfl ?_
      refine zx_aloadN dX10_adds_60 rfl rfl ?_
      refine zx_aloadN dX10_adds_61 rfl rfl ?_
      refine zx_iload dX10_adds_62 rfl ?_
      refine zx_aloadN dX10_adds_64 rfl rfl ?_
      refine zy_getR (q' := 262) fl_RX10_7 rfl dX10_adds_65 rfl ?_
      refine zx_iconst dX10_adds_68 ?_
      refine zy_iald (v := σ.1 262 3) rfl (by decide) (by decide) dX10_adds_69 (by omega) (by omega) rfl ?_
      refine zx_bipush dX10_adds_70 rfl ?_
      refine zx_icmp_ge (tgt := 79) (by first | exact hz _ _ | assumption | exact zr_b _ | exact zcmp_r _ _ | (unfold zr at *; omega)) (by first | exact hz _ _ | assumption | exact zr_b _ | exact zcmp_r _ _ | (unfold zr at *; omega)) dX10_adds_72 (by decide) (fun h72 => ?_) (fun h72 => ?_)
      · refine zx_iconst dX10_adds_79 ?_
        refine zy_top (b := zb (D 12 0 < 40)) (by first | exact (zb_t (by assumption)).symm | exact (zb_t (by omega)).symm | exact (zb_f (by omega)).symm | exact (zb_f (by assumption)).symm | exact (zb_f (fun q => q (by assumption))).symm) ?_
        refine zy_cv [zi (zb ((1 ≤ pg ∧ pg ≤ 999) ∧ ((if kd = 4 then 1450 else 0) ≤ vl ∧ vl ≤ mx) ∧ 1 ≤ wt ∧ wt ≤ 9)), zi (zb (D 12 0 < 40))] (sX10_passesBoth (A := ((1 ≤ pg ∧ pg ≤ 999) ∧ ((if kd = 4 then 1450 else 0) ≤ vl ∧ vl ≤ mx) ∧ 1 ≤ wt ∧ wt ≤ 9)) (B := (D 12 0 < 40)) hfl hz ) dX10_adds_80 (by decide) rfl cw_RX10_406 okX10_passesBoth rfl (Nat.le_of_ble_eq_true rfl) ⟨Nat.le_of_ble_eq_true rfl, Nat.le_of_ble_eq_true rfl, Nat.le_of_ble_eq_true rfl, Nat.le_of_ble_eq_true rfl⟩ ?_
        refine zy_cv [zi (zb (((1 ≤ pg ∧ pg ≤ 999) ∧ ((if kd = 4 then 1450 else 0) ≤ vl ∧ vl ≤ mx) ∧ 1 ≤ wt ∧ wt ≤ 9) ∧ (D 12 0 < 40)))] (sX10_tried_f (A := (((1 ≤ pg ∧ pg ≤ 999) ∧ ((if kd = 4 then 1450 else 0) ≤ vl ∧ vl ≤ mx) ∧ 1 ≤ wt ∧ wt ≤ 9) ∧ (D 12 0 < 40))) hfl (zOK_put hz (th2_r _ _)) (fun q => hw2 q.2)) dX10_adds_83 (by decide) rfl cw_RX10_449 okX10_tried rfl (Nat.le_of_ble_eq_true rfl) ⟨Nat.le_of_ble_eq_true rfl, Nat.le_of_ble_eq_true rfl, Nat.le_of_ble_eq_true rfl, Nat.le_of_ble_eq_true rfl⟩ ?_
        refine zx_if_eq (tgt := 105) (by first | exact hz _ _ | assumption | exact zr_b _ | exact zcmp_r _ _ | (unfold zr at *; omega)) dX10_adds_86 (by decide) (fun h86 => ?_) (fun h86 => ?_)
        · have h86 := zb_0.mp h86
          refine zx_iconst dX10_adds_105 ?_
          refine zx_iret rfl rfl dX10_adds_106 ?_
          rw [hQ]
          refine ⟨congrArg (fun z : Int => (Sum.inl (some (zi z)) : Option zV ⊕ String)) ?_, ?_⟩
          · rfl
          exact ⟨(zOK_put hz (th2_r _ _)), QP_th hR, (zput_s _ _ _ _).trans (th2_2 hw hw2)⟩
        · have h86 := zb_n.mp h86
          exact absurd (by assumption : (((1 ≤ pg ∧ pg ≤ 999) ∧ ((if kd = 4 then 1450 else 0) ≤ vl ∧ vl ≤ mx) ∧ 1 ≤ wt ∧ wt ≤ 9)) ∧ D 12 0 < 40) (fun q => hw2 q.2)
      · refine zx_iconst dX10_adds_75 ?_
        refine zx_goto (tgt := 80) dX10_adds_76 (by decide) ?_
        refine zy_top (b := zb (D 12 0 < 40)) (by first | exact (zb_t (by assumption)).symm | exact (zb_t (by omega)).symm | exact (zb_f (by omega)).symm | exact (zb_f (by assumption)).symm | exact (zb_f (fun q => q (by assumption))).symm) ?_
        refine zy_cv [zi (zb ((1 ≤ pg ∧ pg ≤ 999) ∧ ((if kd = 4 then 1450 else 0) ≤ vl ∧ vl ≤ mx) ∧ 1 ≤ wt ∧ wt ≤ 9)), zi (zb (D 12 0 < 40))] (sX10_passesBoth (A := ((1 ≤ pg ∧ pg ≤ 999) ∧ ((if kd = 4 then 1450 else 0) ≤ vl ∧ vl ≤ mx) ∧ 1 ≤ wt ∧ wt ≤ 9)) (B := (D 12 0 < 40)) hfl hz ) dX10_adds_80 (by decide) rfl cw_RX10_406 okX10_passesBoth rfl (Nat.le_of_ble_eq_true rfl) ⟨Nat.le_of_ble_eq_true rfl, Nat.le_of_ble_eq_true rfl, Nat.le_of_ble_eq_true rfl, Nat.le_of_ble_eq_true rfl⟩ ?_
        refine zy_cv [zi (zb (((1 ≤ pg ∧ pg ≤ 999) ∧ ((if kd = 4 then 1450 else 0) ≤ vl ∧ vl ≤ mx) ∧ 1 ≤ wt ∧ wt ≤ 9) ∧ (D 12 0 < 40)))] (sX10_tried_f (A := (((1 ≤ pg ∧ pg ≤ 999) ∧ ((if kd = 4 then 1450 else 0) ≤ vl ∧ vl ≤ mx) ∧ 1 ≤ wt ∧ wt ≤ 9) ∧ (D 12 0 < 40))) hfl (zOK_put hz (th2_r _ _)) (fun q => hw2 q.2)) dX10_adds_83 (by decide) rfl cw_RX10_449 okX10_tried rfl (Nat.le_of_ble_eq_true rfl) ⟨Nat.le_of_ble_eq_true rfl, Nat.le_of_ble_eq_true rfl, Nat.le_of_ble_eq_true rfl, Nat.le_of_ble_eq_true rfl⟩ ?_
        refine zx_if_eq (tgt := 105) (by first | exact hz _ _ | assumption | exact zr_b _ | exact zcmp_r _ _ | (unfold zr at *; omega)) dX10_adds_86 (by decide) (fun h86 => ?_) (fun h86 => ?_)
        · have h86 := zb_0.mp h86
          refine zx_iconst dX10_adds_105 ?_
          refine zx_iret rfl rfl dX10_adds_106 ?_
          rw [hQ]
          refine ⟨congrArg (fun z : Int => (Sum.inl (some (zi z)) : Option zV ⊕ String)) ?_, ?_⟩
          · rfl
          exact ⟨(zOK_put hz (th2_r _ _)), QP_th hR, (zput_s _ _ _ _).trans (th2_2 hw hw2)⟩
        · have h86 := zb_n.mp h86
          exact absurd (by assumption : (((1 ≤ pg ∧ pg ≤ 999) ∧ ((if kd = 4 then 1450 else 0) ≤ vl ∧ vl ≤ mx) ∧ 1 ≤ wt ∧ wt ≤ 9)) ∧ D 12 0 < 40) (fun q => hw2 q.2)
    · have h23 := zb_n.mp h23
      refine zx_iloadN dX10_adds_26 rfl rfl ?_
      refine zx_i2l (by first | exact hz _ _ | assumption | exact zr_b _ | exact zcmp_r _ _ | (unfold zr at *; omega)) dX10_adds_27 ?_
      refine zx_iload dX10_adds_28 rfl ?_
      refine zx_i2l (by first | exact hz _ _ | assumption | exact zr_b _ | exact zcmp_r _ _ | (unfold zr at *; omega)) dX10_adds_30 ?_
      refine zx_iload dX10_adds_31 rfl ?_
      refine zx_i2l (by first | exact hz _ _ | assumption | exact zr_b _ | exact zcmp_r _ _ | (unfold zr at *; omega)) dX10_adds_33 ?_
      refine zy_cs [zl vl, zl (if kd = 4 then 1450 else 0), zl mx] (sX10_in  hfl hz (by first | exact hz _ _ | assumption | exact zr_b _ | exact zcmp_r _ _ | (unfold zr at *; omega)) (by first | exact hz _ _ | assumption | exact zr_b _ | exact zcmp_r _ _ | (unfold zr at *; omega)) (by first | exact hz _ _ | assumption | exact zr_b _ | exact zcmp_r _ _ | (unfold zr at *; omega))) dX10_adds_34 cw_RX10_74 okX10_in rfl (Nat.le_of_ble_eq_true rfl) ⟨Nat.le_of_ble_eq_true rfl, Nat.le_of_ble_eq_true rfl, Nat.le_of_ble_eq_true rfl, Nat.le_of_ble_eq_true rfl⟩ ?_
      refine zx_if_eq (tgt := 57) (by first | exact hz _ _ | assumption | exact zr_b _ | exact zcmp_r _ _ | (unfold zr at *; omega)) dX10_adds_37 (by decide) (fun h37 => ?_) (fun h37 => ?_)
      · have h37 := zb_0.mp h37
        refine zx_iconst dX10_adds_57 ?_
        refine zy_top (b := zb ((1 ≤ pg ∧ pg ≤ 999) ∧ ((if kd = 4 then 1450 else 0) ≤ vl ∧ vl ≤ mx) ∧ 1 ≤ wt ∧ wt ≤ 9)) (by first | exact (zb_t ⟨by assumption, by assumption, by assumption⟩).symm | exact (zb_f (fun q => absurd q.1 (by assumption))).symm | exact (zb_f (fun q => absurd q.2.1 (by assumption))).symm | exact (zb_f (fun q => absurd q.2.2 (by assumption))).symm) ?_
        refine zy_istore [zf 10 261, zi pg, zi kd, zi vl, zi wt, zi mx, zi (if kd = 4 then 1450 else 0), zi (zb ((1 ≤ pg ∧ pg ≤ 999) ∧ ((if kd = 4 then 1450 else 0) ≤ vl ∧ vl ≤ mx) ∧ 1 ≤ wt ∧ wt ≤ 9))] dX10_adds_58 (Nat.le_of_ble_eq_true rfl) (Nat.le_of_ble_eq_true rfl) rfl rfl ?_
        refine zx_aloadN dX10_adds_60 rfl rfl ?_
        refine zx_aloadN dX10_adds_61 rfl rfl ?_
        refine zx_iload dX10_adds_62 rfl ?_
        refine zx_aloadN dX10_adds_64 rfl rfl ?_
        refine zy_getR (q' := 262) fl_RX10_7 rfl dX10_adds_65 rfl ?_
        refine zx_iconst dX10_adds_68 ?_
        refine zy_iald (v := σ.1 262 3) rfl (by decide) (by decide) dX10_adds_69 (by omega) (by omega) rfl ?_
        refine zx_bipush dX10_adds_70 rfl ?_
        refine zx_icmp_ge (tgt := 79) (by first | exact hz _ _ | assumption | exact zr_b _ | exact zcmp_r _ _ | (unfold zr at *; omega)) (by first | exact hz _ _ | assumption | exact zr_b _ | exact zcmp_r _ _ | (unfold zr at *; omega)) dX10_adds_72 (by decide) (fun h72 => ?_) (fun h72 => ?_)
        · refine zx_iconst dX10_adds_79 ?_
          refine zy_top (b := zb (D 12 0 < 40)) (by first | exact (zb_t (by assumption)).symm | exact (zb_t (by omega)).symm | exact (zb_f (by omega)).symm | exact (zb_f (by assumption)).symm | exact (zb_f (fun q => q (by assumption))).symm) ?_
          refine zy_cv [zi (zb ((1 ≤ pg ∧ pg ≤ 999) ∧ ((if kd = 4 then 1450 else 0) ≤ vl ∧ vl ≤ mx) ∧ 1 ≤ wt ∧ wt ≤ 9)), zi (zb (D 12 0 < 40))] (sX10_passesBoth (A := ((1 ≤ pg ∧ pg ≤ 999) ∧ ((if kd = 4 then 1450 else 0) ≤ vl ∧ vl ≤ mx) ∧ 1 ≤ wt ∧ wt ≤ 9)) (B := (D 12 0 < 40)) hfl hz ) dX10_adds_80 (by decide) rfl cw_RX10_406 okX10_passesBoth rfl (Nat.le_of_ble_eq_true rfl) ⟨Nat.le_of_ble_eq_true rfl, Nat.le_of_ble_eq_true rfl, Nat.le_of_ble_eq_true rfl, Nat.le_of_ble_eq_true rfl⟩ ?_
          refine zy_cv [zi (zb (((1 ≤ pg ∧ pg ≤ 999) ∧ ((if kd = 4 then 1450 else 0) ≤ vl ∧ vl ≤ mx) ∧ 1 ≤ wt ∧ wt ≤ 9) ∧ (D 12 0 < 40)))] (sX10_tried_f (A := (((1 ≤ pg ∧ pg ≤ 999) ∧ ((if kd = 4 then 1450 else 0) ≤ vl ∧ vl ≤ mx) ∧ 1 ≤ wt ∧ wt ≤ 9) ∧ (D 12 0 < 40))) hfl (zOK_put hz (th2_r _ _)) (fun q => hw2 q.2)) dX10_adds_83 (by decide) rfl cw_RX10_449 okX10_tried rfl (Nat.le_of_ble_eq_true rfl) ⟨Nat.le_of_ble_eq_true rfl, Nat.le_of_ble_eq_true rfl, Nat.le_of_ble_eq_true rfl, Nat.le_of_ble_eq_true rfl⟩ ?_
          refine zx_if_eq (tgt := 105) (by first | exact hz _ _ | assumption | exact zr_b _ | exact zcmp_r _ _ | (unfold zr at *; omega)) dX10_adds_86 (by decide) (fun h86 => ?_) (fun h86 => ?_)
          · have h86 := zb_0.mp h86
            refine zx_iconst dX10_adds_105 ?_
            refine zx_iret rfl rfl dX10_adds_106 ?_
            rw [hQ]
            refine ⟨congrArg (fun z : Int => (Sum.inl (some (zi z)) : Option zV ⊕ String)) ?_, ?_⟩
            · rfl
            exact ⟨(zOK_put hz (th2_r _ _)), QP_th hR, (zput_s _ _ _ _).trans (th2_2 hw hw2)⟩
          · have h86 := zb_n.mp h86
            exact absurd (by assumption : (((1 ≤ pg ∧ pg ≤ 999) ∧ ((if kd = 4 then 1450 else 0) ≤ vl ∧ vl ≤ mx) ∧ 1 ≤ wt ∧ wt ≤ 9)) ∧ D 12 0 < 40) (fun q => hw2 q.2)
        · refine zx_iconst dX10_adds_75 ?_
          refine zx_goto (tgt := 80) dX10_adds_76 (by decide) ?_
          refine zy_top (b := zb (D 12 0 < 40)) (by first | exact (zb_t (by assumption)).symm | exact (zb_t (by omega)).symm | exact (zb_f (by omega)).symm | exact (zb_f (by assumption)).symm | exact (zb_f (fun q => q (by assumption))).symm) ?_
          refine zy_cv [zi (zb ((1 ≤ pg ∧ pg ≤ 999) ∧ ((if kd = 4 then 1450 else 0) ≤ vl ∧ vl ≤ mx) ∧ 1 ≤ wt ∧ wt ≤ 9)), zi (zb (D 12 0 < 40))] (sX10_passesBoth (A := ((1 ≤ pg ∧ pg ≤ 999) ∧ ((if kd = 4 then 1450 else 0) ≤ vl ∧ vl ≤ mx) ∧ 1 ≤ wt ∧ wt ≤ 9)) (B := (D 12 0 < 40)) hfl hz ) dX10_adds_80 (by decide) rfl cw_RX10_406 okX10_passesBoth rfl (Nat.le_of_ble_eq_true rfl) ⟨Nat.le_of_ble_eq_true rfl, Nat.le_of_ble_eq_true rfl, Nat.le_of_ble_eq_true rfl, Nat.le_of_ble_eq_true rfl⟩ ?_
          refine zy_cv [zi (zb (((1 ≤ pg ∧ pg ≤ 999) ∧ ((if kd = 4 then 1450 else 0) ≤ vl ∧ vl ≤ mx) ∧ 1 ≤ wt ∧ wt ≤ 9) ∧ (D 12 0 < 40)))] (sX10_tried_f (A := (((1 ≤ pg ∧ pg ≤ 999) ∧ ((if kd = 4 then 1450 else 0) ≤ vl ∧ vl ≤ mx) ∧ 1 ≤ wt ∧ wt ≤ 9) ∧ (D 12 0 < 40))) hfl (zOK_put hz (th2_r _ _)) (fun q => hw2 q.2)) dX10_adds_83 (by decide) rfl cw_RX10_449 okX10_tried rfl (Nat.le_of_ble_eq_true rfl) ⟨Nat.le_of_ble_eq_true rfl, Nat.le_of_ble_eq_true rfl, Nat.le_of_ble_eq_true rfl, Nat.le_of_ble_eq_true rfl⟩ ?_
          refine zx_if_eq (tgt := 105) (by first | exact hz _ _ | assumption | exact zr_b _ | exact zcmp_r _ _ | (unfold zr at *; omega)) dX10_adds_86 (by decide) (fun h86 => ?_) (fun h86 => ?_)
          · have h86 := zb_0.mp h86
            refine zx_iconst dX10_adds_105 ?_
            refine zx_iret rfl rfl dX10_adds_106 ?_
            rw [hQ]
            refine ⟨congrArg (fun z : Int => (Sum.inl (some (zi z)) : Option zV ⊕ String)) ?_, ?_⟩
            · rfl
            exact ⟨(zOK_put hz (th2_r _ _)), QP_th hR, (zput_s _ _ _ _).trans (th2_2 hw hw2)⟩
          · have h86 := zb_n.mp h86
            exact absurd (by assumption : (((1 ≤ pg ∧ pg ≤ 999) ∧ ((if kd = 4 then 1450 else 0) ≤ vl ∧ vl ≤ mx) ∧ 1 ≤ wt ∧ wt ≤ 9)) ∧ D 12 0 < 40) (fun q => hw2 q.2)
      · have h37 := zb_n.mp h37
        refine zx_iload dX10_adds_40 rfl ?_
        refine zx_i2l (by first | exact hz _ _ | assumption | exact zr_b _ | exact zcmp_r _ _ | (unfold zr at *; omega)) dX10_adds_42 ?_
        refine zx_lconst (a := 1) dX10_adds_43 rfl ?_
        refine zx_ldc2 (a := 9) dX10_adds_44 lk_RX10_447 ?_
        refine zy_cs [zl wt, zl 1, zl 9] (sX10_in  hfl hz (by first | exact hz _ _ | assumption | exact zr_b _ | exact zcmp_r _ _ | (unfold zr at *; omega)) (by first | exact hz _ _ | assumption | exact zr_b _ | exact zcmp_r _ _ | (unfold zr at *; omega)) (by first | exact hz _ _ | assumption | exact zr_b _ | exact zcmp_r _ _ | (unfold zr at *; omega))) dX10_adds_47 cw_RX10_74 okX10_in rfl (Nat.le_of_ble_eq_true rfl) ⟨Nat.le_of_ble_eq_true rfl, Nat.le_of_ble_eq_true rfl, Nat.le_of_ble_eq_true rfl, Nat.le_of_ble_eq_true rfl⟩ ?_
        refine zx_if_eq (tgt := 57) (by first | exact hz _ _ | assumption | exact zr_b _ | exact zcmp_r _ _ | (unfold zr at *; omega)) dX10_adds_50 (by decide) (fun h50 => ?_) (fun h50 => ?_)
        · have h50 := zb_0.mp h50
          refine zx_iconst dX10_adds_57 ?_
          refine zy_top (b := zb ((1 ≤ pg ∧ pg ≤ 999) ∧ ((if kd = 4 then 1450 else 0) ≤ vl ∧ vl ≤ mx) ∧ 1 ≤ wt ∧ wt ≤ 9)) (by first | exact (zb_t ⟨by assumption, by assumption, by assumption⟩).symm | exact (zb_f (fun q => absurd q.1 (by assumption))).symm | exact (zb_f (fun q => absurd q.2.1 (by assumption))).symm | exact (zb_f (fun q => absurd q.2.2 (by assumption))).symm) ?_
          refine zy_istore [zf 10 261, zi pg, zi kd, zi vl, zi wt, zi mx, zi (if kd = 4 then 1450 else 0), zi (zb ((1 ≤ pg ∧ pg ≤ 999) ∧ ((if kd = 4 then 1450 else 0) ≤ vl ∧ vl ≤ mx) ∧ 1 ≤ wt ∧ wt ≤ 9))] dX10_adds_58 (Nat.le_of_ble_eq_true rfl) (Nat.le_of_ble_eq_true rfl) rfl rfl ?_
          refine zx_aloadN dX10_adds_60 rfl rfl ?_
          refine zx_aloadN dX10_adds_61 rfl rfl ?_
          refine zx_iload dX10_adds_62 rfl ?_
          refine zx_aloadN dX10_adds_64 rfl rfl ?_
          refine zy_getR (q' := 262) fl_RX10_7 rfl dX10_adds_65 rfl ?_
          refine zx_iconst dX10_adds_68 ?_
          refine zy_iald (v := σ.1 262 3) rfl (by decide) (by decide) dX10_adds_69 (by omega) (by omega) rfl ?_
          refine zx_bipush dX10_adds_70 rfl ?_
          refine zx_icmp_ge (tgt := 79) (by first | exact hz _ _ | assumption | exact zr_b _ | exact zcmp_r _ _ | (unfold zr at *; omega)) (by first | exact hz _ _ | assumption | exact zr_b _ | exact zcmp_r _ _ | (unfold zr at *; omega)) dX10_adds_72 (by decide) (fun h72 => ?_) (fun h72 => ?_)
          · refine zx_iconst dX10_adds_79 ?_
            refine zy_top (b := zb (D 12 0 < 40)) (by first | exact (zb_t (by assumption)).symm | exact (zb_t (by omega)).symm | exact (zb_f (by omega)).symm | exact (zb_f (by assumption)).symm | exact (zb_f (fun q => q (by assumption))).symm) ?_
            refine zy_cv [zi (zb ((1 ≤ pg ∧ pg ≤ 999) ∧ ((if kd = 4 then 1450 else 0) ≤ vl ∧ vl ≤ mx) ∧ 1 ≤ wt ∧ wt ≤ 9)), zi (zb (D 12 0 < 40))] (sX10_passesBoth (A := ((1 ≤ pg ∧ pg ≤ 999) ∧ ((if kd = 4 then 1450 else 0) ≤ vl ∧ vl ≤ mx) ∧ 1 ≤ wt ∧ wt ≤ 9)) (B := (D 12 0 < 40)) hfl hz ) dX10_adds_80 (by decide) rfl cw_RX10_406 okX10_passesBoth rfl (Nat.le_of_ble_eq_true rfl) ⟨Nat.le_of_ble_eq_true rfl, Nat.le_of_ble_eq_true rfl, Nat.le_of_ble_eq_true rfl, Nat.le_of_ble_eq_true rfl⟩ ?_
            refine zy_cv [zi (zb (((1 ≤ pg ∧ pg ≤ 999) ∧ ((if kd = 4 then 1450 else 0) ≤ vl ∧ vl ≤ mx) ∧ 1 ≤ wt ∧ wt ≤ 9) ∧ (D 12 0 < 40)))] (sX10_tried_f (A := (((1 ≤ pg ∧ pg ≤ 999) ∧ ((if kd = 4 then 1450 else 0) ≤ vl ∧ vl ≤ mx) ∧ 1 ≤ wt ∧ wt ≤ 9) ∧ (D 12 0 < 40))) hfl (zOK_put hz (th2_r _ _)) (fun q => hw2 q.2)) dX10_adds_83 (by decide) rfl cw_RX10_449 okX10_tried rfl (Nat.le_of_ble_eq_true rfl) ⟨Nat.le_of_ble_eq_true rfl, Nat.le_of_ble_eq_true rfl, Nat.le_of_ble_eq_true rfl, Nat.le_of_ble_eq_true rfl⟩ ?_
            refine zx_if_eq (tgt := 105) (by first | exact hz _ _ | assumption | exact zr_b _ | exact zcmp_r _ _ | (unfold zr at *; omega)) dX10_adds_86 (by decide) (fun h86 => ?_) (fun h86 => ?_)
            · have h86 := zb_0.mp h86
              refine zx_iconst dX10_adds_105 ?_
              refine zx_iret rfl rfl dX10_adds_106 ?_
              rw [hQ]
              refine ⟨congrArg (fun z : Int => (Sum.inl (some (zi z)) : Option zV ⊕ String)) ?_, ?_⟩
              · rfl
              exact ⟨(zOK_put hz (th2_r _ _)), QP_th hR, (zput_s _ _ _ _).trans (th2_2 hw hw2)⟩
            · have h86 := zb_n.mp h86
              exact absurd (by assumption : (((1 ≤ pg ∧ pg ≤ 999) ∧ ((if kd = 4 then 1450 else 0) ≤ vl ∧ vl ≤ mx) ∧ 1 ≤ wt ∧ wt ≤ 9)) ∧ D 12 0 < 40) (fun q => hw2 q.2)
          · refine zx_iconst dX10_adds_75 ?_
            refine zx_goto (tgt := 80) dX10_adds_76 (by decide) ?_
            refine zy_top (b := zb (D 12 0 < 40)) (by first | exact (zb_t (by assumption)).symm | exact (zb_t (by omega)).symm | exact (zb_f (by omega)).symm | exact (zb_f (by assumption)).symm | exact (zb_f (fun q => q (by assumption))).symm) ?_
            refine zy_cv [zi (zb ((1 ≤ pg ∧ pg ≤ 999) ∧ ((if kd = 4 then 1450 else 0) ≤ vl ∧ vl ≤ mx) ∧ 1 ≤ wt ∧ wt ≤ 9)), zi (zb (D 12 0 < 40))] (sX10_passesBoth (A := ((1 ≤ pg ∧ pg ≤ 999) ∧ ((if kd = 4 then 1450 else 0) ≤ vl ∧ vl ≤ mx) ∧ 1 ≤ wt ∧ wt ≤ 9)) (B := (D 12 0 < 40)) hfl hz ) dX10_adds_80 (by decide) rfl cw_RX10_406 okX10_passesBoth rfl (Nat.le_of_ble_eq_true rfl) ⟨Nat.le_of_ble_eq_true rfl, Nat.le_of_ble_eq_true rfl, Nat.le_of_ble_eq_true rfl, Nat.le_of_ble_eq_true rfl⟩ ?_
            refine zy_cv [zi (zb (((1 ≤ pg ∧ pg ≤ 999) ∧ ((if kd = 4 then 1450 else 0) ≤ vl ∧ vl ≤ mx) ∧ 1 ≤ wt ∧ wt ≤ 9) ∧ (D 12 0 < 40)))] (sX10_tried_f (A := (((1 ≤ pg ∧ pg ≤ 999) ∧ ((if kd = 4 then 1450 else 0) ≤ vl ∧ vl ≤ mx) ∧ 1 ≤ wt ∧ wt ≤ 9) ∧ (D 12 0 < 40))) hfl (zOK_put hz (th2_r _ _)) (fun q => hw2 q.2)) dX10_adds_83 (by decide) rfl cw_RX10_449 okX10_tried rfl (Nat.le_of_ble_eq_true rfl) ⟨Nat.le_of_ble_eq_true rfl, Nat.le_of_ble_eq_true rfl, Nat.le_of_ble_eq_true rfl, Nat.le_of_ble_eq_true rfl⟩ ?_
            refine zx_if_eq (tgt := 105) (by first | exact hz _ _ | assumption | exact zr_b _ | exact zcmp_r _ _ | (unfold zr at *; omega)) dX10_adds_86 (by decide) (fun h86 => ?_) (fun h86 => ?_)
            · have h86 := zb_0.mp h86
              refine zx_iconst dX10_adds_105 ?_
              refine zx_iret rfl rfl dX10_adds_106 ?_
              rw [hQ]
              refine ⟨congrArg (fun z : Int => (Sum.inl (some (zi z)) : Option zV ⊕ String)) ?_, ?_⟩
              · rfl
              exact ⟨(zOK_put hz (th2_r _ _)), QP_th hR, (zput_s _ _ _ _).trans (th2_2 hw hw2)⟩
            · have h86 := zb_n.mp h86
              exact absurd (by assumption : (((1 ≤ pg ∧ pg ≤ 999) ∧ ((if kd = 4 then 1450 else 0) ≤ vl ∧ vl ≤ mx) ∧ 1 ≤ wt ∧ wt ≤ 9)) ∧ D 12 0 < 40) (fun q => hw2 q.2)
        · have h50 := zb_n.mp h50
          refine zx_iconst dX10_adds_53 ?_
          refine zx_goto (tgt := 58) dX10_adds_54 (by decide) ?_
          refine zy_top (b := zb ((1 ≤ pg ∧ pg ≤ 999) ∧ ((if kd = 4 then 1450 else 0) ≤ vl ∧ vl ≤ mx) ∧ 1 ≤ wt ∧ wt ≤ 9)) (by first | exact (zb_t ⟨by assumption, by assumption, by assumption⟩).symm | exact (zb_f (fun q => absurd q.1 (by assumption))).symm | exact (zb_f (fun q => absurd q.2.1 (by assumption))).symm | exact (zb_f (fun q => absurd q.2.2 (by assumption))).symm) ?_
          refine zy_istore [zf 10 261, zi pg, zi kd, zi vl, zi wt, zi mx, zi (if kd = 4 then 1450 else 0), zi (zb ((1 ≤ pg ∧ pg ≤ 999) ∧ ((if kd = 4 then 1450 else 0) ≤ vl ∧ vl ≤ mx) ∧ 1 ≤ wt ∧ wt ≤ 9))] dX10_adds_58 (Nat.le_of_ble_eq_true rfl) (Nat.le_of_ble_eq_true rfl) rfl rfl ?_
          refine zx_aloadN dX10_adds_60 rfl rfl ?_
          refine zx_aloadN dX10_adds_61 rfl rfl ?_
          refine zx_iload dX10_adds_62 rfl ?_
          refine zx_aloadN dX10_adds_64 rfl rfl ?_
          refine zy_getR (q' := 262) fl_RX10_7 rfl dX10_adds_65 rfl ?_
          refine zx_iconst dX10_adds_68 ?_
          refine zy_iald (v := σ.1 262 3) rfl (by decide) (by decide) dX10_adds_69 (by omega) (by omega) rfl ?_
          refine zx_bipush dX10_adds_70 rfl ?_
          refine zx_icmp_ge (tgt := 79) (by first | exact hz _ _ | assumption | exact zr_b _ | exact zcmp_r _ _ | (unfold zr at *; omega)) (by first | exact hz _ _ | assumption | exact zr_b _ | exact zcmp_r _ _ | (unfold zr at *; omega)) dX10_adds_72 (by decide) (fun h72 => ?_) (fun h72 => ?_)
          · refine zx_iconst dX10_adds_79 ?_
            refine zy_top (b := zb (D 12 0 < 40)) (by first | exact (zb_t (by assumption)).symm | exact (zb_t (by omega)).symm | exact (zb_f (by omega)).symm | exact (zb_f (by assumption)).symm | exact (zb_f (fun q => q (by assumption))).symm) ?_
            refine zy_cv [zi (zb ((1 ≤ pg ∧ pg ≤ 999) ∧ ((if kd = 4 then 1450 else 0) ≤ vl ∧ vl ≤ mx) ∧ 1 ≤ wt ∧ wt ≤ 9)), zi (zb (D 12 0 < 40))] (sX10_passesBoth (A := ((1 ≤ pg ∧ pg ≤ 999) ∧ ((if kd = 4 then 1450 else 0) ≤ vl ∧ vl ≤ mx) ∧ 1 ≤ wt ∧ wt ≤ 9)) (B := (D 12 0 < 40)) hfl hz ) dX10_adds_80 (by decide) rfl cw_RX10_406 okX10_passesBoth rfl (Nat.le_of_ble_eq_true rfl) ⟨Nat.le_of_ble_eq_true rfl, Nat.le_of_ble_eq_true rfl, Nat.le_of_ble_eq_true rfl, Nat.le_of_ble_eq_true rfl⟩ ?_
            refine zy_cv [zi (zb (((1 ≤ pg ∧ pg ≤ 999) ∧ ((if kd = 4 then 1450 else 0) ≤ vl ∧ vl ≤ mx) ∧ 1 ≤ wt ∧ wt ≤ 9) ∧ (D 12 0 < 40)))] (sX10_tried_f (A := (((1 ≤ pg ∧ pg ≤ 999) ∧ ((if kd = 4 then 1450 else 0) ≤ vl ∧ vl ≤ mx) ∧ 1 ≤ wt ∧ wt ≤ 9) ∧ (D 12 0 < 40))) hfl (zOK_put hz (th2_r _ _)) (fun q => hw2 q.2)) dX10_adds_83 (by decide) rfl cw_RX10_449 okX10_tried rfl (Nat.le_of_ble_eq_true rfl) ⟨Nat.le_of_ble_eq_true rfl, Nat.le_of_ble_eq_true rfl, Nat.le_of_ble_eq_true rfl, Nat.le_of_ble_eq_true rfl⟩ ?_
            refine zx_if_eq (tgt := 105) (by first | exact hz _ _ | assumption | exact zr_b _ | exact zcmp_r _ _ | (unfold zr at *; omega)) dX10_adds_86 (by decide) (fun h86 => ?_) (fun h86 => ?_)
            · have h86 := zb_0.mp h86
              refine zx_iconst dX10_adds_105 ?_
              refine zx_iret rfl rfl dX10_adds_106 ?_
              rw [hQ]
              refine ⟨congrArg (fun z : Int => (Sum.inl (some (zi z)) : Option zV ⊕ String)) ?_, ?_⟩
              · rfl
              exact ⟨(zOK_put hz (th2_r _ _)), QP_th hR, (zput_s _ _ _ _).trans (th2_2 hw hw2)⟩
            · have h86 := zb_n.mp h86
              exact absurd (by assumption : (((1 ≤ pg ∧ pg ≤ 999) ∧ ((if kd = 4 then 1450 else 0) ≤ vl ∧ vl ≤ mx) ∧ 1 ≤ wt ∧ wt ≤ 9)) ∧ D 12 0 < 40) (fun q => hw2 q.2)
          · refine zx_iconst dX10_adds_75 ?_
            refine zx_goto (tgt := 80) dX10_adds_76 (by decide) ?_
            refine zy_top (b := zb (D 12 0 < 40)) (by first | exact (zb_t (by assumption)).symm | exact (zb_t (by omega)).symm | exact (zb_f (by omega)).symm | exact (zb_f (by assumption)).symm | exact (zb_f (fun q => q (by assumption))).symm) ?_
            refine zy_cv [zi (zb ((1 ≤ pg ∧ pg ≤ 999) ∧ ((if kd = 4 then 1450 else 0) ≤ vl ∧ vl ≤ mx) ∧ 1 ≤ wt ∧ wt ≤ 9)), zi (zb (D 12 0 < 40))] (sX10_passesBoth (A := ((1 ≤ pg ∧ pg ≤ 999) ∧ ((if kd = 4 then 1450 else 0) ≤ vl ∧ vl ≤ mx) ∧ 1 ≤ wt ∧ wt ≤ 9)) (B := (D 12 0 < 40)) hfl hz ) dX10_adds_80 (by decide) rfl cw_RX10_406 okX10_passesBoth rfl (Nat.le_of_ble_eq_true rfl) ⟨Nat.le_of_ble_eq_true rfl, Nat.le_of_ble_eq_true rfl, Nat.le_of_ble_eq_true rfl, Nat.le_of_ble_eq_true rfl⟩ ?_
            refine zy_cv [zi (zb (((1 ≤ pg ∧ pg ≤ 999) ∧ ((if kd = 4 then 1450 else 0) ≤ vl ∧ vl ≤ mx) ∧ 1 ≤ wt ∧ wt ≤ 9) ∧ (D 12 0 < 40)))] (sX10_tried_f (A := (((1 ≤ pg ∧ pg ≤ 999) ∧ ((if kd = 4 then 1450 else 0) ≤ vl ∧ vl ≤ mx) ∧ 1 ≤ wt ∧ wt ≤ 9) ∧ (D 12 0 < 40))) hfl (zOK_put hz (th2_r _ _)) (fun q => hw2 q.2)) dX10_adds_83 (by decide) rfl cw_RX10_449 okX10_tried rfl (Nat.le_of_ble_eq_true rfl) ⟨Nat.le_of_ble_eq_true rfl, Nat.le_of_ble_eq_true rfl, Nat.le_of_ble_eq_true rfl, Nat.le_of_ble_eq_true rfl⟩ ?_
            refine zx_if_eq (tgt := 105) (by first | exact hz _ _ | assumption | exact zr_b _ | exact zcmp_r _ _ | (unfold zr at *; omega)) dX10_adds_86 (by decide) (fun h86 => ?_) (fun h86 => ?_)
            · have h86 := zb_0.mp h86
              refine zx_iconst dX10_adds_105 ?_
              refine zx_iret rfl rfl dX10_adds_106 ?_
              rw [hQ]
              refine ⟨congrArg (fun z : Int => (Sum.inl (some (zi z)) : Option zV ⊕ String)) ?_, ?_⟩
              · rfl
              exact ⟨(zOK_put hz (th2_r _ _)), QP_th hR, (zput_s _ _ _ _).trans (th2_2 hw hw2)⟩
            · have h86 := zb_n.mp h86
              exact absurd (by assumption : (((1 ≤ pg ∧ pg ≤ 999) ∧ ((if kd = 4 then 1450 else 0) ≤ vl ∧ vl ≤ mx) ∧ 1 ≤ wt ∧ wt ≤ 9)) ∧ D 12 0 < 40) (fun q => hw2 q.2)
  · refine zx_sipush dX10_adds_5 rfl ?_
    refine zx_goto (tgt := 12) dX10_adds_8 (by decide) ?_
    refine zy_top (b := (if kd = 4 then 1450 else 0)) (by first | exact (if_pos (by assumption)).symm | exact (if_neg (by assumption)).symm) ?_
    refine zy_istore [zf 10 261, zi pg, zi kd, zi vl, zi wt, zi mx, zi (if kd = 4 then 1450 else 0), zu] dX10_adds_12 (Nat.le_of_ble_eq_true rfl) (Nat.le_of_ble_eq_true rfl) rfl rfl ?_
    refine zx_iloadN dX10_adds_14 rfl rfl ?_
    have zlo : zr (if kd = 4 then 1450 else 0) := by split <;> (unfold zr; omega)
    refine zx_i2l (by first | exact hz _ _ | assumption | exact zr_b _ | exact zcmp_r _ _ | (unfold zr at *; omega)) dX10_adds_15 ?_
    refine zx_lconst (a := 1) dX10_adds_16 rfl ?_
    refine zx_ldc2 (a := 999) dX10_adds_17 lk_RX10_445 ?_
    refine zy_cs [zl pg, zl 1, zl 999] (sX10_in  hfl hz (by first | exact hz _ _ | assumption | exact zr_b _ | exact zcmp_r _ _ | (unfold zr at *; omega)) (by first | exact hz _ _ | assumption | exact zr_b _ | exact zcmp_r _ _ | (unfold zr at *; omega)) (by first | exact hz _ _ | assumption | exact zr_b _ | exact zcmp_r _ _ | (unfold zr at *; omega))) dX10_adds_20 cw_RX10_74 okX10_in rfl (Nat.le_of_ble_eq_true rfl) ⟨Nat.le_of_ble_eq_true rfl, Nat.le_of_ble_eq_true rfl, Nat.le_of_ble_eq_true rfl, Nat.le_of_ble_eq_true rfl⟩ ?_
    refine zx_if_eq (tgt := 57) (by first | exact hz _ _ | assumption | exact zr_b _ | exact zcmp_r _ _ | (unfold zr at *; omega)) dX10_adds_23 (by decide) (fun h23 => ?_) (fun h23 => ?_)
    · have h23 := zb_0.mp h23
      refine zx_iconst dX10_adds_57 ?_
      refine zy_top (b := zb ((1 ≤ pg ∧ pg ≤ 999) ∧ ((if kd = 4 then 1450 else 0) ≤ vl ∧ vl ≤ mx) ∧ 1 ≤ wt ∧ wt ≤ 9)) (by first | exact (zb_t ⟨by assumption, by assumption, by assumption⟩).symm | exact (zb_f (fun q => absurd q.1 (by assumption))).symm | exact (zb_f (fun q => absurd q.2.1 (by assumption))).symm | exact (zb_f (fun q => absurd q.2.2 (by assumption))).symm) ?_
      refine zy_istore [zf 10 261, zi pg, zi kd, zi vl, zi wt, zi mx, zi (if kd = 4 then 1450 else 0), zi (zb ((1 ≤ pg ∧ pg ≤ 999) ∧ ((if kd = 4 then 1450 else 0) ≤ vl ∧ vl ≤ mx) ∧ 1 ≤ wt ∧ wt ≤ 9))] dX10_adds_58 (Nat.le_of_ble_eq_true rfl) (Nat.le_of_ble_eq_true rfl) rfl rfl ?_
      refine zx_aloadN dX10_adds_60 rfl rfl ?_
      refine zx_aloadN dX10_adds_61 rfl rfl ?_
      refine zx_iload dX10_adds_62 rfl ?_
      refine zx_aloadN dX10_adds_64 rfl rfl ?_
      refine zy_getR (q' := 262) fl_RX10_7 rfl dX10_adds_65 rfl ?_
      refine zx_iconst dX10_adds_68 ?_
      refine zy_iald (v := σ.1 262 3) rfl (by decide) (by decide) dX10_adds_69 (by omega) (by omega) rfl ?_
      refine zx_bipush dX10_adds_70 rfl ?_
      refine zx_icmp_ge (tgt := 79) (by first | exact hz _ _ | assumption | exact zr_b _ | exact zcmp_r _ _ | (unfold zr at *; omega)) (by first | exact hz _ _ | assumption | exact zr_b _ | exact zcmp_r _ _ | (unfold zr at *; omega)) dX10_adds_72 (by decide) (fun h72 => ?_) (fun h72 => ?_)
      · refine zx_iconst dX10_adds_79 ?_
        refine zy_top (b := zb (D 12 0 < 40)) (by first | exact (zb_t (by assumption)).symm | exact (zb_t (by omega)).symm | exact (zb_f (by omega)).symm | exact (zb_f (by assumption)).symm | exact (zb_f (fun q => q (by assumption))).symm) ?_
        refine zy_cv [zi (zb ((1 ≤ pg ∧ pg ≤ 999) ∧ ((if kd = 4 then 1450 else 0) ≤ vl ∧ vl ≤ mx) ∧ 1 ≤ wt ∧ wt ≤ 9)), zi (zb (D 12 0 < 40))] (sX10_passesBoth (A := ((1 ≤ pg ∧ pg ≤ 999) ∧ ((if kd = 4 then 1450 else 0) ≤ vl ∧ vl ≤ mx) ∧ 1 ≤ wt ∧ wt ≤ 9)) (B := (D 12 0 < 40)) hfl hz ) dX10_adds_80 (by decide) rfl cw_RX10_406 okX10_passesBoth rfl (Nat.le_of_ble_eq_true rfl) ⟨Nat.le_of_ble_eq_true rfl, Nat.le_of_ble_eq_true rfl, Nat.le_of_ble_eq_true rfl, Nat.le_of_ble_eq_true rfl⟩ ?_
        refine zy_cv [zi (zb (((1 ≤ pg ∧ pg ≤ 999) ∧ ((if kd = 4 then 1450 else 0) ≤ vl ∧ vl ≤ mx) ∧ 1 ≤ wt ∧ wt ≤ 9) ∧ (D 12 0 < 40)))] (sX10_tried_f (A := (((1 ≤ pg ∧ pg ≤ 999) ∧ ((if kd = 4 then 1450 else 0) ≤ vl ∧ vl ≤ mx) ∧ 1 ≤ wt ∧ wt ≤ 9) ∧ (D 12 0 < 40))) hfl (zOK_put hz (th2_r _ _)) (fun q => hw2 q.2)) dX10_adds_83 (by decide) rfl cw_RX10_449 okX10_tried rfl (Nat.le_of_ble_eq_true rfl) ⟨Nat.le_of_ble_eq_true rfl, Nat.le_of_ble_eq_true rfl, Nat.le_of_ble_eq_true rfl, Nat.le_of_ble_eq_true rfl⟩ ?_
        refine zx_if_eq (tgt := 105) (by first | exact hz _ _ | assumption | exact zr_b _ | exact zcmp_r _ _ | (unfold zr at *; omega)) dX10_adds_86 (by decide) (fun h86 => ?_) (fun h86 => ?_)
        · have h86 := zb_0.mp h86
          refine zx_iconst dX10_adds_105 ?_
          refine zx_iret rfl rfl dX10_adds_106 ?_
          rw [hQ]
          refine ⟨congrArg (fun z : Int => (Sum.inl (some (zi z)) : Option zV ⊕ String)) ?_, ?_⟩
          · rfl
          exact ⟨(zOK_put hz (th2_r _ _)), QP_th hR, (zput_s _ _ _ _).trans (th2_2 hw hw2)⟩
        · have h86 := zb_n.mp h86
          exact absurd (by assumption : (((1 ≤ pg ∧ pg ≤ 999) ∧ ((if kd = 4 then 1450 else 0) ≤ vl ∧ vl ≤ mx) ∧ 1 ≤ wt ∧ wt ≤ 9)) ∧ D 12 0 < 40) (fun q => hw2 q.2)
      · refine zx_iconst dX10_adds_75 ?_
        refine zx_goto (tgt := 80) dX10_adds_76 (by decide) ?_
        refine zy_top (b := zb (D 12 0 < 40)) (by first | exact (zb_t (by assumption)).symm | exact (zb_t (by omega)).symm | exact (zb_f (by omega)).symm | exact (zb_f (by assumption)).symm | exact (zb_f (fun q => q (by assumption))).symm) ?_
        refine zy_cv [zi (zb ((1 ≤ pg ∧ pg ≤ 999) ∧ ((if kd = 4 then 1450 else 0) ≤ vl ∧ vl ≤ mx) ∧ 1 ≤ wt ∧ wt ≤ 9)), zi (zb (D 12 0 < 40))] (sX10_passesBoth (A := ((1 ≤ pg ∧ pg ≤ 999) ∧ ((if kd = 4 then 1450 else 0) ≤ vl ∧ vl ≤ mx) ∧ 1 ≤ wt ∧ wt ≤ 9)) (B := (D 12 0 < 40)) hfl hz ) dX10_adds_80 (by decide) rfl cw_RX10_406 okX10_passesBoth rfl (Nat.le_of_ble_eq_true rfl) ⟨Nat.le_of_ble_eq_true rfl, Nat.le_of_ble_eq_true rfl, Nat.le_of_ble_eq_true rfl, Nat.le_of_ble_eq_true rfl⟩ ?_
        refine zy_cv [zi (zb (((1 ≤ pg ∧ pg ≤ 999) ∧ ((if kd = 4 then 1450 else 0) ≤ vl ∧ vl ≤ mx) ∧ 1 ≤ wt ∧ wt ≤ 9) ∧ (D 12 0 < 40)))] (sX10_tried_f (A := (((1 ≤ pg ∧ pg ≤ 999) ∧ ((if kd = 4 then 1450 else 0) ≤ vl ∧ vl ≤ mx) ∧ 1 ≤ wt ∧ wt ≤ 9) ∧ (D 12 0 < 40))) hfl (zOK_put hz (th2_r _ _)) (fun q => hw2 q.2)) dX10_adds_83 (by decide) rfl cw_RX10_449 okX10_tried rfl (Nat.le_of_ble_eq_true rfl) ⟨Nat.le_of_ble_eq_true rfl, Nat.le_of_ble_eq_true rfl, Nat.le_of_ble_eq_true rfl, Nat.le_of_ble_eq_true rfl⟩ ?_
        refine zx_if_eq (tgt := 105) (by first | exact hz _ _ | assumption | exact zr_b _ | exact zcmp_r _ _ | (unfold zr at *; omega)) dX10_adds_86 (by decide) (fun h86 => ?_) (fun h86 => ?_)
        · have h86 := zb_0.mp h86
          refine zx_iconst dX10_adds_105 ?_
          refine zx_iret rfl rfl dX10_adds_106 ?_
          rw [hQ]
          refine ⟨congrArg (fun z : Int => (Sum.inl (some (zi z)) : Option zV ⊕ String)) ?_, ?_⟩
          · rfl
          exact ⟨(zOK_put hz (th2_r _ _)), QP_th hR, (zput_s _ _ _ _).trans (th2_2 hw hw2)⟩
        · have h86 := zb_n.mp h86
          exact absurd (by assumption : (((1 ≤ pg ∧ pg ≤ 999) ∧ ((if kd = 4 then 1450 else 0) ≤ vl ∧ vl ≤ mx) ∧ 1 ≤ wt ∧ wt ≤ 9)) ∧ D 12 0 < 40) (fun q => hw2 q.2)
    · have h23 := zb_n.mp h23
      refine zx_iloadN dX10_adds_26 rfl rfl ?_
      refine zx_i2l (by first | exact hz _ _ | assumption | exact zr_b _ | exact zcmp_r _ _ | (unfold zr at *; omega)) dX10_adds_27 ?_
      refine zx_iload dX10_adds_28 rfl ?_
      refine zx_i2l (by first | exact hz _ _ | assumption | exact zr_b _ | exact zcmp_r _ _ | (unfold zr at *; omega)) dX10_adds_30 ?_
      refine zx_iload dX10_adds_31 rfl ?_
      refine zx_i2l (by first | exact hz _ _ | assumption | exact zr_b _ | exact zcmp_r _ _ | (unfold zr at *; omega)) dX10_adds_33 ?_
      refine zy_cs [zl vl, zl (if kd = 4 then 1450 else 0), zl mx] (sX10_in  hfl hz (by first | exact hz _ _ | assumption | exact zr_b _ | exact zcmp_r _ _ | (unfold zr at *; omega)) (by first | exact hz _ _ | assumption | exact zr_b _ | exact zcmp_r _ _ | (unfold zr at *; omega)) (by first | exact hz _ _ | assumption | exact zr_b _ | exact zcmp_r _ _ | (unfold zr at *; omega))) dX10_adds_34 cw_RX10_74 okX10_in rfl (Nat.le_of_ble_eq_true rfl) ⟨Nat.le_of_ble_eq_true rfl, Nat.le_of_ble_eq_true rfl, Nat.le_of_ble_eq_true rfl, Nat.le_of_ble_eq_true rfl⟩ ?_
      refine zx_if_eq (tgt := 57) (by first | exact hz _ _ | assumption | exact zr_b _ | exact zcmp_r _ _ | (unfold zr at *; omega)) dX10_adds_37 (by decide) (fun h37 => ?_) (fun h37 => ?_)
      · have h37 := zb_0.mp h37
        refine zx_iconst dX10_adds_57 ?_
        refine zy_top (b := zb ((1 ≤ pg ∧ pg ≤ 999) ∧ ((if kd = 4 then 1450 else 0) ≤ vl ∧ vl ≤ mx) ∧ 1 ≤ wt ∧ wt ≤ 9)) (by first | exact (zb_t ⟨by assumption, by assumption, by assumption⟩).symm | exact (zb_f (fun q => absurd q.1 (by assumption))).symm | exact (zb_f (fun q => absurd q.2.1 (by assumption))).symm | exact (zb_f (fun q => absurd q.2.2 (by assumption))).symm) ?_
        refine zy_istore [zf 10 261, zi pg, zi kd, zi vl, zi wt, zi mx, zi (if kd = 4 then 1450 else 0), zi (zb ((1 ≤ pg ∧ pg ≤ 999) ∧ ((if kd = 4 then 1450 else 0) ≤ vl ∧ vl ≤ mx) ∧ 1 ≤ wt ∧ wt ≤ 9))] dX10_adds_58 (Nat.le_of_ble_eq_true rfl) (Nat.le_of_ble_eq_true rfl) rfl rfl ?_
        refine zx_aloadN dX10_adds_60 rfl rfl ?_
        refine zx_aloadN dX10_adds_61 rfl rfl ?_
        refine zx_iload dX10_adds_62 rfl ?_
        refine zx_aloadN dX10_adds_64 rfl rfl ?_
        refine zy_getR (q' := 262) fl_RX10_7 rfl dX10_adds_65 rfl ?_
        refine zx_iconst dX10_adds_68 ?_
        refine zy_iald (v := σ.1 262 3) rfl (by decide) (by decide) dX10_adds_69 (by omega) (by omega) rfl ?_
        refine zx_bipush dX10_adds_70 rfl ?_
        refine zx_icmp_ge (tgt := 79) (by first | exact hz _ _ | assumption | exact zr_b _ | exact zcmp_r _ _ | (unfold zr at *; omega)) (by first | exact hz _ _ | assumption | exact zr_b _ | exact zcmp_r _ _ | (unfold zr at *; omega)) dX10_adds_72 (by decide) (fun h72 => ?_) (fun h72 => ?_)
        · refine zx_iconst dX10_adds_79 ?_
          refine zy_top (b := zb (D 12 0 < 40)) (by first | exact (zb_t (by assumption)).symm | exact (zb_t (by omega)).symm | exact (zb_f (by omega)).symm | exact (zb_f (by assumption)).symm | exact (zb_f (fun q => q (by assumption))).symm) ?_
          refine zy_cv [zi (zb ((1 ≤ pg ∧ pg ≤ 999) ∧ ((if kd = 4 then 1450 else 0) ≤ vl ∧ vl ≤ mx) ∧ 1 ≤ wt ∧ wt ≤ 9)), zi (zb (D 12 0 < 40))] (sX10_passesBoth (A := ((1 ≤ pg ∧ pg ≤ 999) ∧ ((if kd = 4 then 1450 else 0) ≤ vl ∧ vl ≤ mx) ∧ 1 ≤ wt ∧ wt ≤ 9)) (B := (D 12 0 < 40)) hfl hz ) dX10_adds_80 (by decide) rfl cw_RX10_406 okX10_passesBoth rfl (Nat.le_of_ble_eq_true rfl) ⟨Nat.le_of_ble_eq_true rfl, Nat.le_of_ble_eq_true rfl, Nat.le_of_ble_eq_true rfl, Nat.le_of_ble_eq_true rfl⟩ ?_
          refine zy_cv [zi (zb (((1 ≤ pg ∧ pg ≤ 999) ∧ ((if kd = 4 then 1450 else 0) ≤ vl ∧ vl ≤ mx) ∧ 1 ≤ wt ∧ wt ≤ 9) ∧ (D 12 0 < 40)))] (sX10_tried_f (A := (((1 ≤ pg ∧ pg ≤ 999) ∧ ((if kd = 4 then 1450 else 0) ≤ vl ∧ vl ≤ mx) ∧ 1 ≤ wt ∧ wt ≤ 9) ∧ (D 12 0 < 40))) hfl (zOK_put hz (th2_r _ _)) (fun q => hw2 q.2)) dX10_adds_83 (by decide) rfl cw_RX10_449 okX10_tried rfl (Nat.le_of_ble_eq_true rfl) ⟨Nat.le_of_ble_eq_true rfl, Nat.le_of_ble_eq_true rfl, Nat.le_of_ble_eq_true rfl, Nat.le_of_ble_eq_true rfl⟩ ?_
          refine zx_if_eq (tgt := 105) (by first | exact hz _ _ | assumption | exact zr_b _ | exact zcmp_r _ _ | (unfold zr at *; omega)) dX10_adds_86 (by decide) (fun h86 => ?_) (fun h86 => ?_)
          · have h86 := zb_0.mp h86
            refine zx_iconst dX10_adds_105 ?_
            refine zx_iret rfl rfl dX10_adds_106 ?_
            rw [hQ]
            refine ⟨congrArg (fun z : Int => (Sum.inl (some (zi z)) : Option zV ⊕ String)) ?_, ?_⟩
            · rfl
            exact ⟨(zOK_put hz (th2_r _ _)), QP_th hR, (zput_s _ _ _ _).trans (th2_2 hw hw2)⟩
          · have h86 := zb_n.mp h86
            exact absurd (by assumption : (((1 ≤ pg ∧ pg ≤ 999) ∧ ((if kd = 4 then 1450 else 0) ≤ vl ∧ vl ≤ mx) ∧ 1 ≤ wt ∧ wt ≤ 9)) ∧ D 12 0 < 40) (fun q => hw2 q.2)
        · refine zx_iconst dX10_adds_75 ?_
          refine zx_goto (tgt := 80) dX10_adds_76 (by decide) ?_
          refine zy_top (b := zb (D 12 0 < 40)) (by first | exact (zb_t (by assumption)).symm | exact (zb_t (by omega)).symm | exact (zb_f (by omega)).symm | exact (zb_f (by assumption)).symm | exact (zb_f (fun q => q (by assumption))).symm) ?_
          refine zy_cv [zi (zb ((1 ≤ pg ∧ pg ≤ 999) ∧ ((if kd = 4 then 1450 else 0) ≤ vl ∧ vl ≤ mx) ∧ 1 ≤ wt ∧ wt ≤ 9)), zi (zb (D 12 0 < 40))] (sX10_passesBoth (A := ((1 ≤ pg ∧ pg ≤ 999) ∧ ((if kd = 4 then 1450 else 0) ≤ vl ∧ vl ≤ mx) ∧ 1 ≤ wt ∧ wt ≤ 9)) (B := (D 12 0 < 40)) hfl hz ) dX10_adds_80 (by decide) rfl cw_RX10_406 okX10_passesBoth rfl (Nat.le_of_ble_eq_true rfl) ⟨Nat.le_of_ble_eq_true rfl, Nat.le_of_ble_eq_true rfl, Nat.le_of_ble_eq_true rfl, Nat.le_of_ble_eq_true rfl⟩ ?_
          refine zy_cv [zi (zb (((1 ≤ pg ∧ pg ≤ 999) ∧ ((if kd = 4 then 1450 else 0) ≤ vl ∧ vl ≤ mx) ∧ 1 ≤ wt ∧ wt ≤ 9) ∧ (D 12 0 < 40)))] (sX10_tried_f (A := (((1 ≤ pg ∧ pg ≤ 999) ∧ ((if kd = 4 then 1450 else 0) ≤ vl ∧ vl ≤ mx) ∧ 1 ≤ wt ∧ wt ≤ 9) ∧ (D 12 0 < 40))) hfl (zOK_put hz (th2_r _ _)) (fun q => hw2 q.2)) dX10_adds_83 (by decide) rfl cw_RX10_449 okX10_tried rfl (Nat.le_of_ble_eq_true rfl) ⟨Nat.le_of_ble_eq_true rfl, Nat.le_of_ble_eq_true rfl, Nat.le_of_ble_eq_true rfl, Nat.le_of_ble_eq_true rfl⟩ ?_
          refine zx_if_eq (tgt := 105) (by first | exact hz _ _ | assumption | exact zr_b _ | exact zcmp_r _ _ | (unfold zr at *; omega)) dX10_adds_86 (by decide) (fun h86 => ?_) (fun h86 => ?_)
          · have h86 := zb_0.mp h86
            refine zx_iconst dX10_adds_105 ?_
            refine zx_iret rfl rfl dX10_adds_106 ?_
            rw [hQ]
            refine ⟨congrArg (fun z : Int => (Sum.inl (some (zi z)) : Option zV ⊕ String)) ?_, ?_⟩
            · rfl
            exact ⟨(zOK_put hz (th2_r _ _)), QP_th hR, (zput_s _ _ _ _).trans (th2_2 hw hw2)⟩
          · have h86 := zb_n.mp h86
            exact absurd (by assumption : (((1 ≤ pg ∧ pg ≤ 999) ∧ ((if kd = 4 then 1450 else 0) ≤ vl ∧ vl ≤ mx) ∧ 1 ≤ wt ∧ wt ≤ 9)) ∧ D 12 0 < 40) (fun q => hw2 q.2)
      · have h37 := zb_n.mp h37
        refine zx_iload dX10_adds_40 rfl ?_
        refine zx_i2l (by first | exact hz _ _ | assumption | exact zr_b _ | exact zcmp_r _ _ | (unfold zr at *; omega)) dX10_adds_42 ?_
        refine zx_lconst (a := 1) dX10_adds_43 rfl ?_
        refine zx_ldc2 (a := 9) dX10_adds_44 lk_RX10_447 ?_
        refine zy_cs [zl wt, zl 1, zl 9] (sX10_in  hfl hz (by first | exact hz _ _ | assumption | exact zr_b _ | exact zcmp_r _ _ | (unfold zr at *; omega)) (by first | exact hz _ _ | assumption | exact zr_b _ | exact zcmp_r _ _ | (unfold zr at *; omega)) (by first | exact hz _ _ | assumption | exact zr_b _ | exact zcmp_r _ _ | (unfold zr at *; omega))) dX10_adds_47 cw_RX10_74 okX10_in rfl (Nat.le_of_ble_eq_true rfl) ⟨Nat.le_of_ble_eq_true rfl, Nat.le_of_ble_eq_true rfl, Nat.le_of_ble_eq_true rfl, Nat.le_of_ble_eq_true rfl⟩ ?_
        refine zx_if_eq (tgt := 57) (by first | exact hz _ _ | assumption | exact zr_b _ | exact zcmp_r _ _ | (unfold zr at *; omega)) dX10_adds_50 (by decide) (fun h50 => ?_) (fun h50 => ?_)
        · have h50 := zb_0.mp h50
          refine zx_iconst dX10_adds_57 ?_
          refine zy_top (b := zb ((1 ≤ pg ∧ pg ≤ 999) ∧ ((if kd = 4 then 1450 else 0) ≤ vl ∧ vl ≤ mx) ∧ 1 ≤ wt ∧ wt ≤ 9)) (by first | exact (zb_t ⟨by assumption, by assumption, by assumption⟩).symm | exact (zb_f (fun q => absurd q.1 (by assumption))).symm | exact (zb_f (fun q => absurd q.2.1 (by assumption))).symm | exact (zb_f (fun q => absurd q.2.2 (by assumption))).symm) ?_
          refine zy_istore [zf 10 261, zi pg, zi kd, zi vl, zi wt, zi mx, zi (if kd = 4 then 1450 else 0), zi (zb ((1 ≤ pg ∧ pg ≤ 999) ∧ ((if kd = 4 then 1450 else 0) ≤ vl ∧ vl ≤ mx) ∧ 1 ≤ wt ∧ wt ≤ 9))] dX10_adds_58 (Nat.le_of_ble_eq_true rfl) (Nat.le_of_ble_eq_true rfl) rfl rfl ?_
          refine zx_aloadN dX10_adds_60 rfl rfl ?_
          refine zx_aloadN dX10_adds_61 rfl rfl ?_
          refine zx_iload dX10_adds_62 rfl ?_
          refine zx_aloadN dX10_adds_64 rfl rfl ?_
          refine zy_getR (q' := 262) fl_RX10_7 rfl dX10_adds_65 rfl ?_
          refine zx_iconst dX10_adds_68 ?_
          refine zy_iald (v := σ.1 262 3) rfl (by decide) (by decide) dX10_adds_69 (by omega) (by omega) rfl ?_
          refine zx_bipush dX10_adds_70 rfl ?_
          refine zx_icmp_ge (tgt := 79) (by first | exact hz _ _ | assumption | exact zr_b _ | exact zcmp_r _ _ | (unfold zr at *; omega)) (by first | exact hz _ _ | assumption | exact zr_b _ | exact zcmp_r _ _ | (unfold zr at *; omega)) dX10_adds_72 (by decide) (fun h72 => ?_) (fun h72 => ?_)
          · refine zx_iconst dX10_adds_79 ?_
            refine zy_top (b := zb (D 12 0 < 40)) (by first | exact (zb_t (by assumption)).symm | exact (zb_t (by omega)).symm | exact (zb_f (by omega)).symm | exact (zb_f (by assumption)).symm | exact (zb_f (fun q => q (by assumption))).symm) ?_
            refine zy_cv [zi (zb ((1 ≤ pg ∧ pg ≤ 999) ∧ ((if kd = 4 then 1450 else 0) ≤ vl ∧ vl ≤ mx) ∧ 1 ≤ wt ∧ wt ≤ 9)), zi (zb (D 12 0 < 40))] (sX10_passesBoth (A := ((1 ≤ pg ∧ pg ≤ 999) ∧ ((if kd = 4 then 1450 else 0) ≤ vl ∧ vl ≤ mx) ∧ 1 ≤ wt ∧ wt ≤ 9)) (B := (D 12 0 < 40)) hfl hz ) dX10_adds_80 (by decide) rfl cw_RX10_406 okX10_passesBoth rfl (Nat.le_of_ble_eq_true rfl) ⟨Nat.le_of_ble_eq_true rfl, Nat.le_of_ble_eq_true rfl, Nat.le_of_ble_eq_true rfl, Nat.le_of_ble_eq_true rfl⟩ ?_
            refine zy_cv [zi (zb (((1 ≤ pg ∧ pg ≤ 999) ∧ ((if kd = 4 then 1450 else 0) ≤ vl ∧ vl ≤ mx) ∧ 1 ≤ wt ∧ wt ≤ 9) ∧ (D 12 0 < 40)))] (sX10_tried_f (A := (((1 ≤ pg ∧ pg ≤ 999) ∧ ((if kd = 4 then 1450 else 0) ≤ vl ∧ vl ≤ mx) ∧ 1 ≤ wt ∧ wt ≤ 9) ∧ (D 12 0 < 40))) hfl (zOK_put hz (th2_r _ _)) (fun q => hw2 q.2)) dX10_adds_83 (by decide) rfl cw_RX10_449 okX10_tried rfl (Nat.le_of_ble_eq_true rfl) ⟨Nat.le_of_ble_eq_true rfl, Nat.le_of_ble_eq_true rfl, Nat.le_of_ble_eq_true rfl, Nat.le_of_ble_eq_true rfl⟩ ?_
            refine zx_if_eq (tgt := 105) (by first | exact hz _ _ | assumption | exact zr_b _ | exact zcmp_r _ _ | (unfold zr at *; omega)) dX10_adds_86 (by decide) (fun h86 => ?_) (fun h86 => ?_)
            · have h86 := zb_0.mp h86
              refine zx_iconst dX10_adds_105 ?_
              refine zx_iret rfl rfl dX10_adds_106 ?_
              rw [hQ]
              refine ⟨congrArg (fun z : Int => (Sum.inl (some (zi z)) : Option zV ⊕ String)) ?_, ?_⟩
              · rfl
              exact ⟨(zOK_put hz (th2_r _ _)), QP_th hR, (zput_s _ _ _ _).trans (th2_2 hw hw2)⟩
            · have h86 := zb_n.mp h86
              exact absurd (by assumption : (((1 ≤ pg ∧ pg ≤ 999) ∧ ((if kd = 4 then 1450 else 0) ≤ vl ∧ vl ≤ mx) ∧ 1 ≤ wt ∧ wt ≤ 9)) ∧ D 12 0 < 40) (fun q => hw2 q.2)
          · refine zx_iconst dX10_adds_75 ?_
            refine zx_goto (tgt := 80) dX10_adds_76 (by decide) ?_
            refine zy_top (b := zb (D 12 0 < 40)) (by first | exact (zb_t (by assumption)).symm | exact (zb_t (by omega)).symm | exact (zb_f (by omega)).symm | exact (zb_f (by assumption)).symm | exact (zb_f (fun q => q (by assumption))).symm) ?_
            refine zy_cv [zi (zb ((1 ≤ pg ∧ pg ≤ 999) ∧ ((if kd = 4 then 1450 else 0) ≤ vl ∧ vl ≤ mx) ∧ 1 ≤ wt ∧ wt ≤ 9)), zi (zb (D 12 0 < 40))] (sX10_passesBoth (A := ((1 ≤ pg ∧ pg ≤ 999) ∧ ((if kd = 4 then 1450 else 0) ≤ vl ∧ vl ≤ mx) ∧ 1 ≤ wt ∧ wt ≤ 9)) (B := (D 12 0 < 40)) hfl hz ) dX10_adds_80 (by decide) rfl cw_RX10_406 okX10_passesBoth rfl (Nat.le_of_ble_eq_true rfl) ⟨Nat.le_of_ble_eq_true rfl, Nat.le_of_ble_eq_true rfl, Nat.le_of_ble_eq_true rfl, Nat.le_of_ble_eq_true rfl⟩ ?_
            refine zy_cv [zi (zb (((1 ≤ pg ∧ pg ≤ 999) ∧ ((if kd = 4 then 1450 else 0) ≤ vl ∧ vl ≤ mx) ∧ 1 ≤ wt ∧ wt ≤ 9) ∧ (D 12 0 < 40)))] (sX10_tried_f (A := (((1 ≤ pg ∧ pg ≤ 999) ∧ ((if kd = 4 then 1450 else 0) ≤ vl ∧ vl ≤ mx) ∧ 1 ≤ wt ∧ wt ≤ 9) ∧ (D 12 0 < 40))) hfl (zOK_put hz (th2_r _ _)) (fun q => hw2 q.2)) dX10_adds_83 (by decide) rfl cw_RX10_449 okX10_tried rfl (Nat.le_of_ble_eq_true rfl) ⟨Nat.le_of_ble_eq_true rfl, Nat.le_of_ble_eq_true rfl, Nat.le_of_ble_eq_true rfl, Nat.le_of_ble_eq_true rfl⟩ ?_
            refine zx_if_eq (tgt := 105) (by first | exact hz _ _ | assumption | exact zr_b _ | exact zcmp_r _ _ | (unfold zr at *; omega)) dX10_adds_86 (by decide) (fun h86 => ?_) (fun h86 => ?_)
            · have h86 := zb_0.mp h86
              refine zx_iconst dX10_adds_105 ?_
              refine zx_iret rfl rfl dX10_adds_106 ?_
              rw [hQ]
              refine ⟨congrArg (fun z : Int => (Sum.inl (some (zi z)) : Option zV ⊕ String)) ?_, ?_⟩
              · rfl
              exact ⟨(zOK_put hz (th2_r _ _)), QP_th hR, (zput_s _ _ _ _).trans (th2_2 hw hw2)⟩
            · have h86 := zb_n.mp h86
              exact absurd (by assumption : (((1 ≤ pg ∧ pg ≤ 999) ∧ ((if kd = 4 then 1450 else 0) ≤ vl ∧ vl ≤ mx) ∧ 1 ≤ wt ∧ wt ≤ 9)) ∧ D 12 0 < 40) (fun q => hw2 q.2)
        · have h50 := zb_n.mp h50
          refine zx_iconst dX10_adds_53 ?_
          refine zx_goto (tgt := 58) dX10_adds_54 (by decide) ?_
          refine zy_top (b := zb ((1 ≤ pg ∧ pg ≤ 999) ∧ ((if kd = 4 then 1450 else 0) ≤ vl ∧ vl ≤ mx) ∧ 1 ≤ wt ∧ wt ≤ 9)) (by first | exact (zb_t ⟨by assumption, by assumption, by assumption⟩).symm | exact (zb_f (fun q => absurd q.1 (by assumption))).symm | exact (zb_f (fun q => absurd q.2.1 (by assumption))).symm | exact (zb_f (fun q => absurd q.2.2 (by assumption))).symm) ?_
          refine zy_istore [zf 10 261, zi pg, zi kd, zi vl, zi wt, zi mx, zi (if kd = 4 then 1450 else 0), zi (zb ((1 ≤ pg ∧ pg ≤ 999) ∧ ((if kd = 4 then 1450 else 0) ≤ vl ∧ vl ≤ mx) ∧ 1 ≤ wt ∧ wt ≤ 9))] dX10_adds_58 (Nat.le_of_ble_eq_true rfl) (Nat.le_of_ble_eq_true rfl) rfl rfl ?_
          refine zx_aloadN dX10_adds_60 rfl rfl ?_
          refine zx_aloadN dX10_adds_61 rfl rfl ?_
          refine zx_iload dX10_adds_62 rfl ?_
          refine zx_aloadN dX10_adds_64 rfl rfl ?_
          refine zy_getR (q' := 262) fl_RX10_7 rfl dX10_adds_65 rfl ?_
          refine zx_iconst dX10_adds_68 ?_
          refine zy_iald (v := σ.1 262 3) rfl (by decide) (by decide) dX10_adds_69 (by omega) (by omega) rfl ?_
          refine zx_bipush dX10_adds_70 rfl ?_
          refine zx_icmp_ge (tgt := 79) (by first | exact hz _ _ | assumption | exact zr_b _ | exact zcmp_r _ _ | (unfold zr at *; omega)) (by first | exact hz _ _ | assumption | exact zr_b _ | exact zcmp_r _ _ | (unfold zr at *; omega)) dX10_adds_72 (by decide) (fun h72 => ?_) (fun h72 => ?_)
          · refine zx_iconst dX10_adds_79 ?_
            refine zy_top (b := zb (D 12 0 < 40)) (by first | exact (zb_t (by assumption)).symm | exact (zb_t (by omega)).symm | exact (zb_f (by omega)).symm | exact (zb_f (by assumption)).symm | exact (zb_f (fun q => q (by assumption))).symm) ?_
            refine zy_cv [zi (zb ((1 ≤ pg ∧ pg ≤ 999) ∧ ((if kd = 4 then 1450 else 0) ≤ vl ∧ vl ≤ mx) ∧ 1 ≤ wt ∧ wt ≤ 9)), zi (zb (D 12 0 < 40))] (sX10_passesBoth (A := ((1 ≤ pg ∧ pg ≤ 999) ∧ ((if kd = 4 then 1450 else 0) ≤ vl ∧ vl ≤ mx) ∧ 1 ≤ wt ∧ wt ≤ 9)) (B := (D 12 0 < 40)) hfl hz ) dX10_adds_80 (by decide) rfl cw_RX10_406 okX10_passesBoth rfl (Nat.le_of_ble_eq_true rfl) ⟨Nat.le_of_ble_eq_true rfl, Nat.le_of_ble_eq_true rfl, Nat.le_of_ble_eq_true rfl, Nat.le_of_ble_eq_true rfl⟩ ?_
            refine zy_cv [zi (zb (((1 ≤ pg ∧ pg ≤ 999) ∧ ((if kd = 4 then 1450 else 0) ≤ vl ∧ vl ≤ mx) ∧ 1 ≤ wt ∧ wt ≤ 9) ∧ (D 12 0 < 40)))] (sX10_tried_f (A := (((1 ≤ pg ∧ pg ≤ 999) ∧ ((if kd = 4 then 1450 else 0) ≤ vl ∧ vl ≤ mx) ∧ 1 ≤ wt ∧ wt ≤ 9) ∧ (D 12 0 < 40))) hfl (zOK_put hz (th2_r _ _)) (fun q => hw2 q.2)) dX10_adds_83 (by decide) rfl cw_RX10_449 okX10_tried rfl (Nat.le_of_ble_eq_true rfl) ⟨Nat.le_of_ble_eq_true rfl, Nat.le_of_ble_eq_true rfl, Nat.le_of_ble_eq_true rfl, Nat.le_of_ble_eq_true rfl⟩ ?_
            refine zx_if_eq (tgt := 105) (by first | exact hz _ _ | assumption | exact zr_b _ | exact zcmp_r _ _ | (unfold zr at *; omega)) dX10_adds_86 (by decide) (fun h86 => ?_) (fun h86 => ?_)
            · have h86 := zb_0.mp h86
              refine zx_iconst dX10_adds_105 ?_
              refine zx_iret rfl rfl dX10_adds_106 ?_
              rw [hQ]
              refine ⟨congrArg (fun z : Int => (Sum.inl (some (zi z)) : Option zV ⊕ String)) ?_, ?_⟩
              · rfl
              exact ⟨(zOK_put hz (th2_r _ _)), QP_th hR, (zput_s _ _ _ _).trans (th2_2 hw hw2)⟩
            · have h86 := zb_n.mp h86
              exact absurd (by assumption : (((1 ≤ pg ∧ pg ≤ 999) ∧ ((if kd = 4 then 1450 else 0) ≤ vl ∧ vl ≤ mx) ∧ 1 ≤ wt ∧ wt ≤ 9)) ∧ D 12 0 < 40) (fun q => hw2 q.2)
          · refine zx_iconst dX10_adds_75 ?_
            refine zx_goto (tgt := 80) dX10_adds_76 (by decide) ?_
            refine zy_top (b := zb (D 12 0 < 40)) (by first | exact (zb_t (by assumption)).symm | exact (zb_t (by omega)).symm | exact (zb_f (by omega)).symm | exact (zb_f (by assumption)).symm | exact (zb_f (fun q => q (by assumption))).symm) ?_
            refine zy_cv [zi (zb ((1 ≤ pg ∧ pg ≤ 999) ∧ ((if kd = 4 then 1450 else 0) ≤ vl ∧ vl ≤ mx) ∧ 1 ≤ wt ∧ wt ≤ 9)), zi (zb (D 12 0 < 40))] (sX10_passesBoth (A := ((1 ≤ pg ∧ pg ≤ 999) ∧ ((if kd = 4 then 1450 else 0) ≤ vl ∧ vl ≤ mx) ∧ 1 ≤ wt ∧ wt ≤ 9)) (B := (D 12 0 < 40)) hfl hz ) dX10_adds_80 (by decide) rfl cw_RX10_406 okX10_passesBoth rfl (Nat.le_of_ble_eq_true rfl) ⟨Nat.le_of_ble_eq_true rfl, Nat.le_of_ble_eq_true rfl, Nat.le_of_ble_eq_true rfl, Nat.le_of_ble_eq_true rfl⟩ ?_
            refine zy_cv [zi (zb (((1 ≤ pg ∧ pg ≤ 999) ∧ ((if kd = 4 then 1450 else 0) ≤ vl ∧ vl ≤ mx) ∧ 1 ≤ wt ∧ wt ≤ 9) ∧ (D 12 0 < 40)))] (sX10_tried_f (A := (((1 ≤ pg ∧ pg ≤ 999) ∧ ((if kd = 4 then 1450 else 0) ≤ vl ∧ vl ≤ mx) ∧ 1 ≤ wt ∧ wt ≤ 9) ∧ (D 12 0 < 40))) hfl (zOK_put hz (th2_r _ _)) (fun q => hw2 q.2)) dX10_adds_83 (by decide) rfl cw_RX10_449 okX10_tried rfl (Nat.le_of_ble_eq_true rfl) ⟨Nat.le_of_ble_eq_true rfl, Nat.le_of_ble_eq_true rfl, Nat.le_of_ble_eq_true rfl, Nat.le_of_ble_eq_true rfl⟩ ?_
            refine zx_if_eq (tgt := 105) (by first | exact hz _ _ | assumption | exact zr_b _ | exact zcmp_r _ _ | (unfold zr at *; omega)) dX10_adds_86 (by decide) (fun h86 => ?_) (fun h86 => ?_)
            · have h86 := zb_0.mp h86
              refine zx_iconst dX10_adds_105 ?_
              refine zx_iret rfl rfl dX10_adds_106 ?_
              rw [hQ]
              refine ⟨congrArg (fun z : Int => (Sum.inl (some (zi z)) : Option zV ⊕ String)) ?_, ?_⟩
              · rfl
              exact ⟨(zOK_put hz (th2_r _ _)), QP_th hR, (zput_s _ _ _ _).trans (th2_2 hw hw2)⟩
            · have h86 := zb_n.mp h86
              exact absurd (by assumption : (((1 ≤ pg ∧ pg ≤ 999) ∧ ((if kd = 4 then 1450 else 0) ≤ vl ∧ vl ≤ mx) ∧ 1 ≤ wt ∧ wt ≤ 9)) ∧ D 12 0 < 40) (fun q => hw2 q.2)
set_option maxRecDepth 20000 in
set_option maxHeartbeats 2000000 in
theorem sX10_adds {l : Launch} {w : zW} (hfl : l.stackTraces = false) {σ : zS} {D : zBk} {pg kd vl wt mx : Int} (hz : zOK σ) (hW : WF D) (hR : Rel D (σ.1 262)) (h1 : zr pg) (h2 : zr kd) (h3 : zr vl) (h4 : zr wt) (h5m : zr mx) (hm5 : 0 ≤ σ.1 261 5 ∧ σ.1 261 5 ≤ 8) (hw : (1 ≤ pg ∧ pg ≤ 999) ∧ ((if kd = 4 then 1450 else 0) ≤ vl ∧ vl ≤ mx) ∧ 1 ≤ wt ∧ wt ≤ 9) (hw2 : D 12 0 < 40) : Sp l w mX10_adds 3 0 [zf 10 261, zi pg, zi kd, zi vl, zi wt, zi mx] σ (zqv (some (zi (D 12 0))) (fun τ => zOK τ ∧ mfr σ τ mA mF ∧ Rel (adB D pg kd vl wt) (τ.1 262) ∧ MPu σ τ (σ.1 262) ∧ τ.1 261 6 = 0)) := by
  obtain ⟨Q, hQ⟩ : ∃ Q : zQ, Q = (zqv (some (zi (D 12 0))) (fun τ => zOK τ ∧ mfr σ τ mA mF ∧ Rel (adB D pg kd vl wt) (τ.1 262) ∧ MPu σ τ (σ.1 262) ∧ τ.1 261 6 = 0)) := ⟨_, rfl⟩
  rw [← hQ]
  refine zx_enter hfl (by decide) rfl 2 rfl ?_
  show zX l w mX10_adds (zMQ w 3 0 Q) 0 [zf 10 261, zi pg, zi kd, zi vl, zi wt, zi mx, zu, zu] [] 0 σ
  have hP : 0 ≤ D 1 0 ∧ D 1 0 ≤ 8 := hW.1.1
  have hM : 0 ≤ D 1 7 ∧ D 1 7 ≤ 8 := hW.1.2.1
  have hE : 0 ≤ D 1 10 ∧ D 1 10 ≤ 12 := hW.1.2.2.1
  have hK : 0 ≤ D 12 0 ∧ D 12 0 ≤ 40 := hW.1.2.2.2
  have r0 : σ.1 262 0 = D 1 0 := hR.1.1
  have r1 : σ.1 262 1 = D 1 7 := hR.1.2.1
  have r2 : σ.1 262 2 = D 1 10 := hR.1.2.2.1
  have r3 : σ.1 262 3 = D 12 0 := hR.1.2.2.2
  refine zx_iloadN dX10_adds_0 rfl rfl ?_
  refine zx_iconst dX10_adds_1 ?_
  refine zx_icmp_ne (tgt := 11) (by first | exact hz _ _ | assumption | exact zr_b _ | exact zcmp_r _ _ | (unfold zr at *; omega)) (by first | exact hz _ _ | assumption | exact zr_b _ | exact zcmp_r _ _ | (unfold zr at *; omega)) dX10_adds_2 (by decide) (fun h2 => ?_) (fun h2 => ?_)
  · refine zx_iconst dX10_adds_11 ?_
    refine zy_top (b := (if kd = 4 then 1450 else 0)) (by first | exact (if_pos (by assumption)).symm | exact (if_neg (by assumption)).symm) ?_
    refine zy_istore [zf 10 261, zi pg, zi kd, zi vl, zi wt, zi mx, zi (if kd = 4 then 1450 else 0), zu] dX10_adds_12 (Nat.le_of_ble_eq_true rfl) (Nat.le_of_ble_eq_true rfl) rfl rfl ?_
    refine zx_iloadN dX10_adds_14 rfl rfl ?_
    have zlo : zr (if kd = 4 then 1450 else 0) := by split <;> (unfold zr; omega)
    refine zx_i2l (by first | exact hz _ _ | assumption | exact zr_b _ | exact zcmp_r _ _ | (unfold zr at *; omega)) dX10_adds_15 ?_
    refine zx_lconst (a := 1) dX10_adds_16 rfl ?_
    refine zx_ldc2 (a := 999) dX10_adds_17 lk_RX10_445 ?_
    refine zy_cs [zl pg, zl 1, zl 999] (sX10_in  hfl hz (by first | exact hz _ _ | assumption | exact zr_b _ | exact zcmp_r _ _ | (unfold zr at *; omega)) (by first | exact hz _ _ | assumption | exact zr_b _ | exact zcmp_r _ _ | (unfold zr at *; omega)) (by first | exact hz _ _ | assumption | exact zr_b _ | exact zcmp_r _ _ | (unfold zr at *; omega))) dX10_adds_20 cw_RX10_74 okX10_in rfl (Nat.le_of_ble_eq_true rfl) ⟨Nat.le_of_ble_eq_true rfl, Nat.le_of_ble_eq_true rfl, Nat.le_of_ble_eq_true rfl, Nat.le_of_ble_eq_true rfl⟩ ?_
    refine zx_if_eq (tgt := 57) (by first | exact hz _ _ | assumption | exact zr_b _ | exact zcmp_r _ _ | (unfold zr at *; omega)) dX10_adds_23 (by decide) (fun h23 => ?_) (fun h23 => ?_)
    · have h23 := zb_0.mp h23
      refine zx_iconst dX10_adds_57 ?_
      refine zy_top (b := zb ((1 ≤ pg ∧ pg ≤ 999) ∧ ((if kd = 4 then 1450 else 0) ≤ vl ∧ vl ≤ mx) ∧ 1 ≤ wt ∧ wt ≤ 9)) (by first | exact (zb_t ⟨by assumption, by assumption, by assumption⟩).symm | exact (zb_f (fun q => absurd q.1 (by assumption))).symm | exact (zb_f (fun q => absurd q.2.1 (by assumption))).symm | exact (zb_f (fun q => absurd q.2.2 (by assumption))).symm) ?_
      refine zy_istore [zf 10 261, zi pg, zi kd, zi vl, zi wt, zi mx, zi (if kd = 4 then 1450 else 0), zi (zb ((1 ≤ pg ∧ pg ≤ 999) ∧ ((if kd = 4 then 1450 else 0) ≤ vl ∧ vl ≤ mx) ∧ 1 ≤ wt ∧ wt ≤ 9))] dX10_adds_58 (Nat.le_of_ble_eq_true rfl) (Nat.le_of_ble_eq_true rfl) rfl rfl ?_
      refine zx_aloadN dX10_adds_60 rfl rfl ?_
      refine zx_aloadN dX10_adds_61 rfl rfl ?_
      refine zx_iload dX10_adds_62 rfl ?_
      refine zx_aloadN dX10_adds_64 rfl rfl ?_
      refine zy_getR (q' := 262) fl_RX10_7 rfl dX10_adds_65 rfl ?_
      refine zx_iconst dX10_adds_68 ?_
      refine zy_iald (v := σ.1 262 3) rfl (by decide) (by decide) dX10_adds_69 (by omega) (by omega) rfl ?_
      refine zx_bipush dX10_adds_70 rfl ?_
      refine zx_icmp_ge (tgt := 79) (by first | exact hz _ _ | assumption | exact zr_b _ | exact zcmp_r _ _ | (unfold zr at *; omega)) (by first | exact hz _ _ | assumption | exact zr_b _ | exact zcmp_r _ _ | (unfold zr at *; omega)) dX10_adds_72 (by decide) (fun h72 => ?_) (fun h72 => ?_)
      · refine zx_iconst dX10_adds_79 ?_
        refine zy_top (b := zb (D 12 0 < 40)) (by first | exact (zb_t (by assumption)).symm | exact (zb_t (by omega)).symm | exact (zb_f (by omega)).symm | exact (zb_f (by assumption)).symm | exact (zb_f (fun q => q (by assumption))).symm) ?_
        refine zy_cv [zi (zb ((1 ≤ pg ∧ pg ≤ 999) ∧ ((if kd = 4 then 1450 else 0) ≤ vl ∧ vl ≤ mx) ∧ 1 ≤ wt ∧ wt ≤ 9)), zi (zb (D 12 0 < 40))] (sX10_passesBoth (A := ((1 ≤ pg ∧ pg ≤ 999) ∧ ((if kd = 4 then 1450 else 0) ≤ vl ∧ vl ≤ mx) ∧ 1 ≤ wt ∧ wt ≤ 9)) (B := (D 12 0 < 40)) hfl hz ) dX10_adds_80 (by decide) rfl cw_RX10_406 okX10_passesBoth rfl (Nat.le_of_ble_eq_true rfl) ⟨Nat.le_of_ble_eq_true rfl, Nat.le_of_ble_eq_true rfl, Nat.le_of_ble_eq_true rfl, Nat.le_of_ble_eq_true rfl⟩ ?_
        refine zy_cvR [zi (zb (((1 ≤ pg ∧ pg ≤ 999) ∧ ((if kd = 4 then 1450 else 0) ≤ vl ∧ vl ≤ mx) ∧ 1 ≤ wt ∧ wt ≤ 9) ∧ (D 12 0 < 40)))] (sX10_tried (A := (((1 ≤ pg ∧ pg ≤ 999) ∧ ((if kd = 4 then 1450 else 0) ≤ vl ∧ vl ≤ mx) ∧ 1 ≤ wt ∧ wt ≤ 9) ∧ (D 12 0 < 40))) hfl (zOK_put hz (th2_r _ _)) (⟨hw, hw2⟩ : (((1 ≤ pg ∧ pg ≤ 999) ∧ ((if kd = 4 then 1450 else 0) ≤ vl ∧ vl ≤ mx) ∧ 1 ≤ wt ∧ wt ≤ 9)) ∧ D 12 0 < 40)) dX10_adds_83 (by decide) rfl cw_RX10_449 okX10_tried rfl (Nat.le_of_ble_eq_true rfl) ⟨Nat.le_of_ble_eq_true rfl, Nat.le_of_ble_eq_true rfl, Nat.le_of_ble_eq_true rfl, Nat.le_of_ble_eq_true rfl⟩ (fun τ83 hr83 => ?_)
        have hz83 : zOK τ83 := hr83.1
        have hRt : Rel D (τ83.1 262) := mfr_R (mfr_cpo hr83.2 (by decide)) (by decide) (Rel_put (by decide) hR)
        have h5t : 0 ≤ τ83.1 261 5 ∧ τ83.1 261 5 ≤ 8 := by rw [hr83.2.1 261 (by decide), zput_i _ _ _ _ _ (by decide)]; exact hm5
        refine zx_if_eq (tgt := 105) (by first | exact hz83 _ _ | assumption | exact zr_b _ | exact zcmp_r _ _ | (unfold zr at *; omega)) dX10_adds_86 (by decide) (fun h86 => ?_) (fun h86 => ?_)
        · have h86 := zb_0.mp h86
          exact absurd (⟨hw, hw2⟩ : (((1 ≤ pg ∧ pg ≤ 999) ∧ ((if kd = 4 then 1450 else 0) ≤ vl ∧ vl ≤ mx) ∧ 1 ≤ wt ∧ wt ≤ 9)) ∧ D 12 0 < 40) (by assumption)
        · have h86 := zb_n.mp h86
          refine zx_aloadN dX10_adds_89 rfl rfl ?_
          refine zx_aloadN dX10_adds_90 rfl rfl ?_
          refine zx_iloadN dX10_adds_91 rfl rfl ?_
          refine zx_iloadN dX10_adds_92 rfl rfl ?_
          refine zx_iloadN dX10_adds_93 rfl rfl ?_
          refine zx_iload dX10_adds_94 rfl ?_
          refine zy_cvR [zi pg, zi kd, zi vl, zi wt] (sX10_clueNow (D := D) hfl hz83 (by first | assumption | omega) hRt (by first | exact hz83 _ _ | assumption | exact zr_b _ | exact zcmp_r _ _ | (unfold zr at *; omega)) (by first | exact hz83 _ _ | assumption | exact zr_b _ | exact zcmp_r _ _ | (unfold zr at *; omega)) (by first | exact hz83 _ _ | assumption | exact zr_b _ | exact zcmp_r _ _ | (unfold zr at *; omega)) (by first | exact hz83 _ _ | assumption | exact zr_b _ | exact zcmp_r _ _ | (unfold zr at *; omega)) (by first | assumption | omega)) dX10_adds_96 (by decide) rfl cw_RX10_372 okX10_clueNow rfl (Nat.le_of_ble_eq_true rfl) ⟨Nat.le_of_ble_eq_true rfl, Nat.le_of_ble_eq_true rfl, Nat.le_of_ble_eq_true rfl, Nat.le_of_ble_eq_true rfl⟩ (fun τ96 hr96 => ?_)
          have hz96 : zOK τ96 := hr96.1
          have h5n : 0 ≤ τ96.1 261 5 ∧ τ96.1 261 5 ≤ 8 := by rw [hr96.2.1.2.1 5 (by omega)]; exact h5t
          refine zy_cvR [zi (zb True)] (sX10_done (A := True) hfl hz96 h5n) dX10_adds_99 (by decide) rfl cw_RX10_452 okX10_done rfl (Nat.le_of_ble_eq_true rfl) ⟨Nat.le_of_ble_eq_true rfl, Nat.le_of_ble_eq_true rfl, Nat.le_of_ble_eq_true rfl, Nat.le_of_ble_eq_true rfl⟩ (fun τ99 hr99 => ?_)
          have hz99 : zOK τ99 := hr99.1
          refine zx_goto (tgt := 106) dX10_adds_102 (by decide) ?_
          refine zx_iret rfl rfl dX10_adds_106 ?_
          rw [hQ]
          refine ⟨congrArg (fun z : Int => (Sum.inl (some (zi z)) : Option zV ⊕ String)) ?_, ?_⟩
          · exact hr96.2.2.2
          have ht : mfr (zput σ 261 6 (th2 ((1 ≤ pg ∧ pg ≤ 999) ∧ ((if kd = 4 then 1450 else 0) ≤ vl ∧ vl ≤ mx) ∧ 1 ≤ wt ∧ wt ≤ 9) (D 12 0 < 40))) τ83 (fun k => k = 264) (fun _ => False) := mfr_cpo hr83.2 (by decide)
          have mB : mfr σ (zput σ 261 6 (th2 ((1 ≤ pg ∧ pg ≤ 999) ∧ ((if kd = 4 then 1450 else 0) ≤ vl ∧ vl ≤ mx) ∧ 1 ≤ wt ∧ wt ≤ 9) (D 12 0 < 40))) (fun _ => False) (fun i => i = 6) := mfr_mo (mfr_put261 (mfr_rf σ (fun _ => False) (fun _ => False))) (fun k q => q) (fun i q => by rcases q with q | q; exact absurd q id; exact q)
          have m1 : mfr σ τ83 mA mF := mfr_tr mB ht (fun k q => by rcases q with q | q; exact absurd q id; exact Or.inr (Or.inl q)) (fun i q => by rcases q with q | q; exact Or.inr (Or.inl q); exact absurd q id)
          have m2 : mfr σ τ96 mA mF := mfr_tr m1 hr96.2.1 (fun k q => by unfold mA at *; omega) (fun i q => by unfold mF at *; omega)
          have m3 : mfr σ τ99 mA mF := mfr_tr m2 hr99.2.1 (fun k q => by unfold mA at *; omega) (fun i q => by unfold mF at *; omega)
          have h264 : ∀ j, j < 380 → τ96.1 264 j = σ.1 262 j := fun j hj => by
            rw [hr96.2.1.1 264 (by omega) (by omega) j]
            have := hr83.2.2.2.1 j hj
            rw [Nat.zero_add] at this
            rw [this]; exact zput_k _ _ _ _ _ (by omega)
          have h266 : ∀ j, τ96.1 266 j = σ.1 266 j := fun j => by
            rw [hr96.2.1.1 266 (by omega) (by omega) j, ht.1 266 (by omega) (by omega) j]; exact zput_k _ _ _ _ _ (by omega)
          have h65 : τ96.1 261 5 = σ.1 261 5 := by
            rw [hr96.2.1.2.1 5 (by omega), ht.2.1 5 (fun q => q)]; exact zput_i _ _ _ _ _ (by omega)
          have h66 : τ99.1 261 6 = 0 := by
            rw [hr99.2.1.2.1 6 (by omega), hr96.2.1.2.1 6 (by omega), ht.2.1 6 (fun q => q)]; exact (zput_s _ _ _ _).trans (th2_0 hw hw2)
          exact ⟨hz99, m3, mfr_R hr99.2.1 (by omega) hr96.2.2.1, MPu_to hr99.2.2 h65 h266 h264, h66⟩
      · refine zx_iconst dX10_adds_75 ?_
        refine zx_goto (tgt := 80) dX10_adds_76 (by decide) ?_
        refine zy_top (b := zb (D 12 0 < 40)) (by first | exact (zb_t (by assumption)).symm | exact (zb_t (by omega)).symm | exact (zb_f (by omega)).symm | exact (zb_f (by assumption)).symm | exact (zb_f (fun q => q (by assumption))).symm) ?_
        refine zy_cv [zi (zb ((1 ≤ pg ∧ pg ≤ 999) ∧ ((if kd = 4 then 1450 else 0) ≤ vl ∧ vl ≤ mx) ∧ 1 ≤ wt ∧ wt ≤ 9)), zi (zb (D 12 0 < 40))] (sX10_passesBoth (A := ((1 ≤ pg ∧ pg ≤ 999) ∧ ((if kd = 4 then 1450 else 0) ≤ vl ∧ vl ≤ mx) ∧ 1 ≤ wt ∧ wt ≤ 9)) (B := (D 12 0 < 40)) hfl hz ) dX10_adds_80 (by decide) rfl cw_RX10_406 okX10_passesBoth rfl (Nat.le_of_ble_eq_true rfl) ⟨Nat.le_of_ble_eq_true rfl, Nat.le_of_ble_eq_true rfl, Nat.le_of_ble_eq_true rfl, Nat.le_of_ble_eq_true rfl⟩ ?_
        refine zy_cvR [zi (zb (((1 ≤ pg ∧ pg ≤ 999) ∧ ((if kd = 4 then 1450 else 0) ≤ vl ∧ vl ≤ mx) ∧ 1 ≤ wt ∧ wt ≤ 9) ∧ (D 12 0 < 40)))] (sX10_tried (A := (((1 ≤ pg ∧ pg ≤ 999) ∧ ((if kd = 4 then 1450 else 0) ≤ vl ∧ vl ≤ mx) ∧ 1 ≤ wt ∧ wt ≤ 9) ∧ (D 12 0 < 40))) hfl (zOK_put hz (th2_r _ _)) (⟨hw, hw2⟩ : (((1 ≤ pg ∧ pg ≤ 999) ∧ ((if kd = 4 then 1450 else 0) ≤ vl ∧ vl ≤ mx) ∧ 1 ≤ wt ∧ wt ≤ 9)) ∧ D 12 0 < 40)) dX10_adds_83 (by decide) rfl cw_RX10_449 okX10_tried rfl (Nat.le_of_ble_eq_true rfl) ⟨Nat.le_of_ble_eq_true rfl, Nat.le_of_ble_eq_true rfl, Nat.le_of_ble_eq_true rfl, Nat.le_of_ble_eq_true rfl⟩ (fun τ83 hr83 => ?_)
        have hz83 : zOK τ83 := hr83.1
        have hRt : Rel D (τ83.1 262) := mfr_R (mfr_cpo hr83.2 (by decide)) (by decide) (Rel_put (by decide) hR)
        have h5t : 0 ≤ τ83.1 261 5 ∧ τ83.1 261 5 ≤ 8 := by rw [hr83.2.1 261 (by decide), zput_i _ _ _ _ _ (by decide)]; exact hm5
        refine zx_if_eq (tgt := 105) (by first | exact hz83 _ _ | assumption | exact zr_b _ | exact zcmp_r _ _ | (unfold zr at *; omega)) dX10_adds_86 (by decide) (fun h86 => ?_) (fun h86 => ?_)
        · have h86 := zb_0.mp h86
          exact absurd (⟨hw, hw2⟩ : (((1 ≤ pg ∧ pg ≤ 999) ∧ ((if kd = 4 then 1450 else 0) ≤ vl ∧ vl ≤ mx) ∧ 1 ≤ wt ∧ wt ≤ 9)) ∧ D 12 0 < 40) (by assumption)
        · have h86 := zb_n.mp h86
          refine zx_aloadN dX10_adds_89 rfl rfl ?_
          refine zx_aloadN dX10_adds_90 rfl rfl ?_
          refine zx_iloadN dX10_adds_91 rfl rfl ?_
          refine zx_iloadN dX10_adds_92 rfl rfl ?_
          refine zx_iloadN dX10_adds_93 rfl rfl ?_
          refine zx_iload dX10_adds_94 rfl ?_
          refine zy_cvR [zi pg, zi kd, zi vl, zi wt] (sX10_clueNow (D := D) hfl hz83 (by first | assumption | omega) hRt (by first | exact hz83 _ _ | assumption | exact zr_b _ | exact zcmp_r _ _ | (unfold zr at *; omega)) (by first | exact hz83 _ _ | assumption | exact zr_b _ | exact zcmp_r _ _ | (unfold zr at *; omega)) (by first | exact hz83 _ _ | assumption | exact zr_b _ | exact zcmp_r _ _ | (unfold zr at *; omega)) (by first | exact hz83 _ _ | assumption | exact zr_b _ | exact zcmp_r _ _ | (unfold zr at *; omega)) (by first | assumption | omega)) dX10_adds_96 (by decide) rfl cw_RX10_372 okX10_clueNow rfl (Nat.le_of_ble_eq_true rfl) ⟨Nat.le_of_ble_eq_true rfl, Nat.le_of_ble_eq_true rfl, Nat.le_of_ble_eq_true rfl, Nat.le_of_ble_eq_true rfl⟩ (fun τ96 hr96 => ?_)
          have hz96 : zOK τ96 := hr96.1
          have h5n : 0 ≤ τ96.1 261 5 ∧ τ96.1 261 5 ≤ 8 := by rw [hr96.2.1.2.1 5 (by omega)]; exact h5t
          refine zy_cvR [zi (zb True)] (sX10_done (A := True) hfl hz96 h5n) dX10_adds_99 (by decide) rfl cw_RX10_452 okX10_done rfl (Nat.le_of_ble_eq_true rfl) ⟨Nat.le_of_ble_eq_true rfl, Nat.le_of_ble_eq_true rfl, Nat.le_of_ble_eq_true rfl, Nat.le_of_ble_eq_true rfl⟩ (fun τ99 hr99 => ?_)
          have hz99 : zOK τ99 := hr99.1
          refine zx_goto (tgt := 106) dX10_adds_102 (by decide) ?_
          refine zx_iret rfl rfl dX10_adds_106 ?_
          rw [hQ]
          refine ⟨congrArg (fun z : Int => (Sum.inl (some (zi z)) : Option zV ⊕ String)) ?_, ?_⟩
          · exact hr96.2.2.2
          have ht : mfr (zput σ 261 6 (th2 ((1 ≤ pg ∧ pg ≤ 999) ∧ ((if kd = 4 then 1450 else 0) ≤ vl ∧ vl ≤ mx) ∧ 1 ≤ wt ∧ wt ≤ 9) (D 12 0 < 40))) τ83 (fun k => k = 264) (fun _ => False) := mfr_cpo hr83.2 (by decide)
          have mB : mfr σ (zput σ 261 6 (th2 ((1 ≤ pg ∧ pg ≤ 999) ∧ ((if kd = 4 then 1450 else 0) ≤ vl ∧ vl ≤ mx) ∧ 1 ≤ wt ∧ wt ≤ 9) (D 12 0 < 40))) (fun _ => False) (fun i => i = 6) := mfr_mo (mfr_put261 (mfr_rf σ (fun _ => False) (fun _ => False))) (fun k q => q) (fun i q => by rcases q with q | q; exact absurd q id; exact q)
          have m1 : mfr σ τ83 mA mF := mfr_tr mB ht (fun k q => by rcases q with q | q; exact absurd q id; exact Or.inr (Or.inl q)) (fun i q => by rcases q with q | q; exact Or.inr (Or.inl q); exact absurd q id)
          have m2 : mfr σ τ96 mA mF := mfr_tr m1 hr96.2.1 (fun k q => by unfold mA at *; omega) (fun i q => by unfold mF at *; omega)
          have m3 : mfr σ τ99 mA mF := mfr_tr m2 hr99.2.1 (fun k q => by unfold mA at *; omega) (fun i q => by unfold mF at *; omega)
          have h264 : ∀ j, j < 380 → τ96.1 264 j = σ.1 262 j := fun j hj => by
            rw [hr96.2.1.1 264 (by omega) (by omega) j]
            have := hr83.2.2.2.1 j hj
            rw [Nat.zero_add] at this
            rw [this]; exact zput_k _ _ _ _ _ (by omega)
          have h266 : ∀ j, τ96.1 266 j = σ.1 266 j := fun j => by
            rw [hr96.2.1.1 266 (by omega) (by omega) j, ht.1 266 (by omega) (by omega) j]; exact zput_k _ _ _ _ _ (by omega)
          have h65 : τ96.1 261 5 = σ.1 261 5 := by
            rw [hr96.2.1.2.1 5 (by omega), ht.2.1 5 (fun q => q)]; exact zput_i _ _ _ _ _ (by omega)
          have h66 : τ99.1 261 6 = 0 := by
            rw [hr99.2.1.2.1 6 (by omega), hr96.2.1.2.1 6 (by omega), ht.2.1 6 (fun q => q)]; exact (zput_s _ _ _ _).trans (th2_0 hw hw2)
          exact ⟨hz99, m3, mfr_R hr99.2.1 (by omega) hr96.2.2.1, MPu_to hr99.2.2 h65 h266 h264, h66⟩
    · have h23 := zb_n.mp h23
      refine zx_iloadN dX10_adds_26 rfl rfl ?_
      refine zx_i2l (by first | exact hz _ _ | assumption | exact zr_b _ | exact zcmp_r _ _ | (unfold zr at *; omega)) dX10_adds_27 ?_
      refine zx_iload dX10_adds_28 rfl ?_
      refine zx_i2l (by first | exact hz _ _ | assumption | exact zr_b _ | exact zcmp_r _ _ | (unfold zr at *; omega)) dX10_adds_30 ?_
      refine zx_iload dX10_adds_31 rfl ?_
      refine zx_i2l (by first | exact hz _ _ | assumption | exact zr_b _ | exact zcmp_r _ _ | (unfold zr at *; omega)) dX10_adds_33 ?_
      refine zy_cs [zl vl, zl (if kd = 4 then 1450 else 0), zl mx] (sX10_in  hfl hz (by first | exact hz _ _ | assumption | exact zr_b _ | exact zcmp_r _ _ | (unfold zr at *; omega)) (by first | exact hz _ _ | assumption | exact zr_b _ | exact zcmp_r _ _ | (unfold zr at *; omega)) (by first | exact hz _ _ | assumption | exact zr_b _ | exact zcmp_r _ _ | (unfold zr at *; omega))) dX10_adds_34 cw_RX10_74 okX10_in rfl (Nat.le_of_ble_eq_true rfl) ⟨Nat.le_of_ble_eq_true rfl, Nat.le_of_ble_eq_true rfl, Nat.le_of_ble_eq_true rfl, Nat.le_of_ble_eq_true rfl⟩ ?_
      refine zx_if_eq (tgt := 57) (by first | exact hz _ _ | assumption | exact zr_b _ | exact zcmp_r _ _ | (unfold zr at *; omega)) dX10_adds_37 (by decide) (fun h37 => ?_) (fun h37 => ?_)
      · have h37 := zb_0.mp h37
        refine zx_iconst dX10_adds_57 ?_
        refine zy_top (b := zb ((1 ≤ pg ∧ pg ≤ 999) ∧ ((if kd = 4 then 1450 else 0) ≤ vl ∧ vl ≤ mx) ∧ 1 ≤ wt ∧ wt ≤ 9)) (by first | exact (zb_t ⟨by assumption, by assumption, by assumption⟩).symm | exact (zb_f (fun q => absurd q.1 (by assumption))).symm | exact (zb_f (fun q => absurd q.2.1 (by assumption))).symm | exact (zb_f (fun q => absurd q.2.2 (by assumption))).symm) ?_
        refine zy_istore [zf 10 261, zi pg, zi kd, zi vl, zi wt, zi mx, zi (if kd = 4 then 1450 else 0), zi (zb ((1 ≤ pg ∧ pg ≤ 999) ∧ ((if kd = 4 then 1450 else 0) ≤ vl ∧ vl ≤ mx) ∧ 1 ≤ wt ∧ wt ≤ 9))] dX10_adds_58 (Nat.le_of_ble_eq_true rfl) (Nat.le_of_ble_eq_true rfl) rfl rfl ?_
        refine zx_aloadN dX10_adds_60 rfl rfl ?_
        refine zx_aloadN dX10_adds_61 rfl rfl ?_
        refine zx_iload dX10_adds_62 rfl ?_
        refine zx_aloadN dX10_adds_64 rfl rfl ?_
        refine zy_getR (q' := 262) fl_RX10_7 rfl dX10_adds_65 rfl ?_
        refine zx_iconst dX10_adds_68 ?_
        refine zy_iald (v := σ.1 262 3) rfl (by decide) (by decide) dX10_adds_69 (by omega) (by omega) rfl ?_
        refine zx_bipush dX10_adds_70 rfl ?_
        refine zx_icmp_ge (tgt := 79) (by first | exact hz _ _ | assumption | exact zr_b _ | exact zcmp_r _ _ | (unfold zr at *; omega)) (by first | exact hz _ _ | assumption | exact zr_b _ | exact zcmp_r _ _ | (unfold zr at *; omega)) dX10_adds_72 (by decide) (fun h72 => ?_) (fun h72 => ?_)
        · refine zx_iconst dX10_adds_79 ?_
          refine zy_top (b := zb (D 12 0 < 40)) (by first | exact (zb_t (by assumption)).symm | exact (zb_t (by omega)).symm | exact (zb_f (by omega)).symm | exact (zb_f (by assumption)).symm | exact (zb_f (fun q => q (by assumption))).symm) ?_
          refine zy_cv [zi (zb ((1 ≤ pg ∧ pg ≤ 999) ∧ ((if kd = 4 then 1450 else 0) ≤ vl ∧ vl ≤ mx) ∧ 1 ≤ wt ∧ wt ≤ 9)), zi (zb (D 12 0 < 40))] (sX10_passesBoth (A := ((1 ≤ pg ∧ pg ≤ 999) ∧ ((if kd = 4 then 1450 else 0) ≤ vl ∧ vl ≤ mx) ∧ 1 ≤ wt ∧ wt ≤ 9)) (B := (D 12 0 < 40)) hfl hz ) dX10_adds_80 (by decide) rfl cw_RX10_406 okX10_passesBoth rfl (Nat.le_of_ble_eq_true rfl) ⟨Nat.le_of_ble_eq_true rfl, Nat.le_of_ble_eq_true rfl, Nat.le_of_ble_eq_true rfl, Nat.le_of_ble_eq_true rfl⟩ ?_
          refine zy_cvR [zi (zb (((1 ≤ pg ∧ pg ≤ 999) ∧ ((if kd = 4 then 1450 else 0) ≤ vl ∧ vl ≤ mx) ∧ 1 ≤ wt ∧ wt ≤ 9) ∧ (D 12 0 < 40)))] (sX10_tried (A := (((1 ≤ pg ∧ pg ≤ 999) ∧ ((if kd = 4 then 1450 else 0) ≤ vl ∧ vl ≤ mx) ∧ 1 ≤ wt ∧ wt ≤ 9) ∧ (D 12 0 < 40))) hfl (zOK_put hz (th2_r _ _)) (⟨hw, hw2⟩ : (((1 ≤ pg ∧ pg ≤ 999) ∧ ((if kd = 4 then 1450 else 0) ≤ vl ∧ vl ≤ mx) ∧ 1 ≤ wt ∧ wt ≤ 9)) ∧ D 12 0 < 40)) dX10_adds_83 (by decide) rfl cw_RX10_449 okX10_tried rfl (Nat.le_of_ble_eq_true rfl) ⟨Nat.le_of_ble_eq_true rfl, Nat.le_of_ble_eq_true rfl, Nat.le_of_ble_eq_true rfl, Nat.le_of_ble_eq_true rfl⟩ (fun τ83 hr83 => ?_)
          have hz83 : zOK τ83 := hr83.1
          have hRt : Rel D (τ83.1 262) := mfr_R (mfr_cpo hr83.2 (by decide)) (by decide) (Rel_put (by decide) hR)
          have h5t : 0 ≤ τ83.1 261 5 ∧ τ83.1 261 5 ≤ 8 := by rw [hr83.2.1 261 (by decide), zput_i _ _ _ _ _ (by decide)]; exact hm5
          refine zx_if_eq (tgt := 105) (by first | exact hz83 _ _ | assumption | exact zr_b _ | exact zcmp_r _ _ | (unfold zr at *; omega)) dX10_adds_86 (by decide) (fun h86 => ?_) (fun h86 => ?_)
          · have h86 := zb_0.mp h86
            exact absurd (⟨hw, hw2⟩ : (((1 ≤ pg ∧ pg ≤ 999) ∧ ((if kd = 4 then 1450 else 0) ≤ vl ∧ vl ≤ mx) ∧ 1 ≤ wt ∧ wt ≤ 9)) ∧ D 12 0 < 40) (by assumption)
          · have h86 := zb_n.mp h86
            refine zx_aloadN dX10_adds_89 rfl rfl ?_
            refine zx_aloadN dX10_adds_90 rfl rfl ?_
            refine zx_iloadN dX10_adds_91 rfl rfl ?_
            refine zx_iloadN dX10_adds_92 rfl rfl ?_
            refine zx_iloadN dX10_adds_93 rfl rfl ?_
            refine zx_iload dX10_adds_94 rfl ?_
            refine zy_cvR [zi pg, zi kd, zi vl, zi wt] (sX10_clueNow (D := D) hfl hz83 (by first | assumption | omega) hRt (by first | exact hz83 _ _ | assumption | exact zr_b _ | exact zcmp_r _ _ | (unfold zr at *; omega)) (by first | exact hz83 _ _ | assumption | exact zr_b _ | exact zcmp_r _ _ | (unfold zr at *; omega)) (by first | exact hz83 _ _ | assumption | exact zr_b _ | exact zcmp_r _ _ | (unfold zr at *; omega)) (by first | exact hz83 _ _ | assumption | exact zr_b _ | exact zcmp_r _ _ | (unfold zr at *; omega)) (by first | assumption | omega)) dX10_adds_96 (by decide) rfl cw_RX10_372 okX10_clueNow rfl (Nat.le_of_ble_eq_true rfl) ⟨Nat.le_of_ble_eq_true rfl, Nat.le_of_ble_eq_true rfl, Nat.le_of_ble_eq_true rfl, Nat.le_of_ble_eq_true rfl⟩ (fun τ96 hr96 => ?_)
            have hz96 : zOK τ96 := hr96.1
            have h5n : 0 ≤ τ96.1 261 5 ∧ τ96.1 261 5 ≤ 8 := by rw [hr96.2.1.2.1 5 (by omega)]; exact h5t
            refine zy_cvR [zi (zb True)] (sX10_done (A := True) hfl hz96 h5n) dX10_adds_99 (by decide) rfl cw_RX10_452 okX10_done rfl (Nat.le_of_ble_eq_true rfl) ⟨Nat.le_of_ble_eq_true rfl, Nat.le_of_ble_eq_true rfl, Nat.le_of_ble_eq_true rfl, Nat.le_of_ble_eq_true rfl⟩ (fun τ99 hr99 => ?_)
            have hz99 : zOK τ99 := hr99.1
            refine zx_goto (tgt := 106) dX10_adds_102 (by decide) ?_
            refine zx_iret rfl rfl dX10_adds_106 ?_
            rw [hQ]
            refine ⟨congrArg (fun z : Int => (Sum.inl (some (zi z)) : Option zV ⊕ String)) ?_, ?_⟩
            · exact hr96.2.2.2
            have ht : mfr (zput σ 261 6 (th2 ((1 ≤ pg ∧ pg ≤ 999) ∧ ((if kd = 4 then 1450 else 0) ≤ vl ∧ vl ≤ mx) ∧ 1 ≤ wt ∧ wt ≤ 9) (D 12 0 < 40))) τ83 (fun k => k = 264) (fun _ => False) := mfr_cpo hr83.2 (by decide)
            have mB : mfr σ (zput σ 261 6 (th2 ((1 ≤ pg ∧ pg ≤ 999) ∧ ((if kd = 4 then 1450 else 0) ≤ vl ∧ vl ≤ mx) ∧ 1 ≤ wt ∧ wt ≤ 9) (D 12 0 < 40))) (fun _ => False) (fun i => i = 6) := mfr_mo (mfr_put261 (mfr_rf σ (fun _ => False) (fun _ => False))) (fun k q => q) (fun i q => by rcases q with q | q; exact absurd q id; exact q)
            have m1 : mfr σ τ83 mA mF := mfr_tr mB ht (fun k q => by rcases q with q | q; exact absurd q id; exact Or.inr (Or.inl q)) (fun i q => by rcases q with q | q; exact Or.inr (Or.inl q); exact absurd q id)
            have m2 : mfr σ τ96 mA mF := mfr_tr m1 hr96.2.1 (fun k q => by unfold mA at *; omega) (fun i q => by unfold mF at *; omega)
            have m3 : mfr σ τ99 mA mF := mfr_tr m2 hr99.2.1 (fun k q => by unfold mA at *; omega) (fun i q => by unfold mF at *; omega)
            have h264 : ∀ j, j < 380 → τ96.1 264 j = σ.1 262 j := fun j hj => by
              rw [hr96.2.1.1 264 (by omega) (by omega) j]
              have := hr83.2.2.2.1 j hj
              rw [Nat.zero_add] at this
              rw [this]; exact zput_k _ _ _ _ _ (by omega)
            have h266 : ∀ j, τ96.1 266 j = σ.1 266 j := fun j => by
              rw [hr96.2.1.1 266 (by omega) (by omega) j, ht.1 266 (by omega) (by omega) j]; exact zput_k _ _ _ _ _ (by omega)
            have h65 : τ96.1 261 5 = σ.1 261 5 := by
              rw [hr96.2.1.2.1 5 (by omega), ht.2.1 5 (fun q => q)]; exact zput_i _ _ _ _ _ (by omega)
            have h66 : τ99.1 261 6 = 0 := by
              rw [hr99.2.1.2.1 6 (by omega), hr96.2.1.2.1 6 (by omega), ht.2.1 6 (fun q => q)]; exact (zput_s _ _ _ _).trans (th2_0 hw hw2)
            exact ⟨hz99, m3, mfr_R hr99.2.1 (by omega) hr96.2.2.1, MPu_to hr99.2.2 h65 h266 h264, h66⟩
        · refine zx_iconst dX10_adds_75 ?_
          refine zx_goto (tgt := 80) dX10_adds_76 (by decide) ?_
          refine zy_top (b := zb (D 12 0 < 40)) (by first | exact (zb_t (by assumption)).symm | exact (zb_t (by omega)).symm | exact (zb_f (by omega)).symm | exact (zb_f (by assumption)).symm | exact (zb_f (fun q => q (by assumption))).symm) ?_
          refine zy_cv [zi (zb ((1 ≤ pg ∧ pg ≤ 999) ∧ ((if kd = 4 then 1450 else 0) ≤ vl ∧ vl ≤ mx) ∧ 1 ≤ wt ∧ wt ≤ 9)), zi (zb (D 12 0 < 40))] (sX10_passesBoth (A := ((1 ≤ pg ∧ pg ≤ 999) ∧ ((if kd = 4 then 1450 else 0) ≤ vl ∧ vl ≤ mx) ∧ 1 ≤ wt ∧ wt ≤ 9)) (B := (D 12 0 < 40)) hfl hz ) dX10_adds_80 (by decide) rfl cw_RX10_406 okX10_passesBoth rfl (Nat.le_of_ble_eq_true rfl) ⟨Nat.le_of_ble_eq_true rfl, Nat.le_of_ble_eq_true rfl, Nat.le_of_ble_eq_true rfl, Nat.le_of_ble_eq_true rfl⟩ ?_
          refine zy_cvR [zi (zb (((1 ≤ pg ∧ pg ≤ 999) ∧ ((if kd = 4 then 1450 else 0) ≤ vl ∧ vl ≤ mx) ∧ 1 ≤ wt ∧ wt ≤ 9) ∧ (D 12 0 < 40)))] (sX10_tried (A := (((1 ≤ pg ∧ pg ≤ 999) ∧ ((if kd = 4 then 1450 else 0) ≤ vl ∧ vl ≤ mx) ∧ 1 ≤ wt ∧ wt ≤ 9) ∧ (D 12 0 < 40))) hfl (zOK_put hz (th2_r _ _)) (⟨hw, hw2⟩ : (((1 ≤ pg ∧ pg ≤ 999) ∧ ((if kd = 4 then 1450 else 0) ≤ vl ∧ vl ≤ mx) ∧ 1 ≤ wt ∧ wt ≤ 9)) ∧ D 12 0 < 40)) dX10_adds_83 (by decide) rfl cw_RX10_449 okX10_tried rfl (Nat.le_of_ble_eq_true rfl) ⟨Nat.le_of_ble_eq_true rfl, Nat.le_of_ble_eq_true rfl, Nat.le_of_ble_eq_true rfl, Nat.le_of_ble_eq_true rfl⟩ (fun τ83 hr83 => ?_)
          have hz83 : zOK τ83 := hr83.1
          have hRt : Rel D (τ83.1 262) := mfr_R (mfr_cpo hr83.2 (by decide)) (by decide) (Rel_put (by decide) hR)
          have h5t : 0 ≤ τ83.1 261 5 ∧ τ83.1 261 5 ≤ 8 := by rw [hr83.2.1 261 (by decide), zput_i _ _ _ _ _ (by decide)]; exact hm5
          refine zx_if_eq (tgt := 105) (by first | exact hz83 _ _ | assumption | exact zr_b _ | exact zcmp_r _ _ | (unfold zr at *; omega)) dX10_adds_86 (by decide) (fun h86 => ?_) (fun h86 => ?_)
          · have h86 := zb_0.mp h86
            exact absurd (⟨hw, hw2⟩ : (((1 ≤ pg ∧ pg ≤ 999) ∧ ((if kd = 4 then 1450 else 0) ≤ vl ∧ vl ≤ mx) ∧ 1 ≤ wt ∧ wt ≤ 9)) ∧ D 12 0 < 40) (by assumption)
          · have h86 := zb_n.mp h86
            refine zx_aloadN dX10_adds_89 rfl rfl ?_
            refine zx_aloadN dX10_adds_90 rfl rfl ?_
            refine zx_iloadN dX10_adds_91 rfl rfl ?_
            refine zx_iloadN dX10_adds_92 rfl rfl ?_
            refine zx_iloadN dX10_adds_93 rfl rfl ?_
            refine zx_iload dX10_adds_94 rfl ?_
            refine zy_cvR [zi pg, zi kd, zi vl, zi wt] (sX10_clueNow (D := D) hfl hz83 (by first | assumption | omega) hRt (by first | exact hz83 _ _ | assumption | exact zr_b _ | exact zcmp_r _ _ | (unfold zr at *; omega)) (by first | exact hz83 _ _ | assumption | exact zr_b _ | exact zcmp_r _ _ | (unfold zr at *; omega)) (by first | exact hz83 _ _ | assumption | exact zr_b _ | exact zcmp_r _ _ | (unfold zr at *; omega)) (by first | exact hz83 _ _ | assumption | exact zr_b _ | exact zcmp_r _ _ | (unfold zr at *; omega)) (by first | assumption | omega)) dX10_adds_96 (by decide) rfl cw_RX10_372 okX10_clueNow rfl (Nat.le_of_ble_eq_true rfl) ⟨Nat.le_of_ble_eq_true rfl, Nat.le_of_ble_eq_true rfl, Nat.le_of_ble_eq_true rfl, Nat.le_of_ble_eq_true rfl⟩ (fun τ96 hr96 => ?_)
            have hz96 : zOK τ96 := hr96.1
            have h5n : 0 ≤ τ96.1 261 5 ∧ τ96.1 261 5 ≤ 8 := by rw [hr96.2.1.2.1 5 (by omega)]; exact h5t
            refine zy_cvR [zi (zb True)] (sX10_done (A := True) hfl hz96 h5n) dX10_adds_99 (by decide) rfl cw_RX10_452 okX10_done rfl (Nat.le_of_ble_eq_true rfl) ⟨Nat.le_of_ble_eq_true rfl, Nat.le_of_ble_eq_true rfl, Nat.le_of_ble_eq_true rfl, Nat.le_of_ble_eq_true rfl⟩ (fun τ99 hr99 => ?_)
            have hz99 : zOK τ99 := hr99.1
            refine zx_goto (tgt := 106) dX10_adds_102 (by decide) ?_
            refine zx_iret rfl rfl dX10_adds_106 ?_
            rw [hQ]
            refine ⟨congrArg (fun z : Int => (Sum.inl (some (zi z)) : Option zV ⊕ String)) ?_, ?_⟩
            · exact hr96.2.2.2
            have ht : mfr (zput σ 261 6 (th2 ((1 ≤ pg ∧ pg ≤ 999) ∧ ((if kd = 4 then 1450 else 0) ≤ vl ∧ vl ≤ mx) ∧ 1 ≤ wt ∧ wt ≤ 9) (D 12 0 < 40))) τ83 (fun k => k = 264) (fun _ => False) := mfr_cpo hr83.2 (by decide)
            have mB : mfr σ (zput σ 261 6 (th2 ((1 ≤ pg ∧ pg ≤ 999) ∧ ((if kd = 4 then 1450 else 0) ≤ vl ∧ vl ≤ mx) ∧ 1 ≤ wt ∧ wt ≤ 9) (D 12 0 < 40))) (fun _ => False) (fun i => i = 6) := mfr_mo (mfr_put261 (mfr_rf σ (fun _ => False) (fun _ => False))) (fun k q => q) (fun i q => by rcases q with q | q; exact absurd q id; exact q)
            have m1 : mfr σ τ83 mA mF := mfr_tr mB ht (fun k q => by rcases q with q | q; exact absurd q id; exact Or.inr (Or.inl q)) (fun i q => by rcases q with q | q; exact Or.inr (Or.inl q); exact absurd q id)
            have m2 : mfr σ τ96 mA mF := mfr_tr m1 hr96.2.1 (fun k q => by unfold mA at *; omega) (fun i q => by unfold mF at *; omega)
            have m3 : mfr σ τ99 mA mF := mfr_tr m2 hr99.2.1 (fun k q => by unfold mA at *; omega) (fun i q => by unfold mF at *; omega)
            have h264 : ∀ j, j < 380 → τ96.1 264 j = σ.1 262 j := fun j hj => by
              rw [hr96.2.1.1 264 (by omega) (by omega) j]
              have := hr83.2.2.2.1 j hj
              rw [Nat.zero_add] at this
              rw [this]; exact zput_k _ _ _ _ _ (by omega)
            have h266 : ∀ j, τ96.1 266 j = σ.1 266 j := fun j => by
              rw [hr96.2.1.1 266 (by omega) (by omega) j, ht.1 266 (by omega) (by omega) j]; exact zput_k _ _ _ _ _ (by omega)
            have h65 : τ96.1 261 5 = σ.1 261 5 := by
              rw [hr96.2.1.2.1 5 (by omega), ht.2.1 5 (fun q => q)]; exact zput_i _ _ _ _ _ (by omega)
            have h66 : τ99.1 261 6 = 0 := by
              rw [hr99.2.1.2.1 6 (by omega), hr96.2.1.2.1 6 (by omega), ht.2.1 6 (fun q => q)]; exact (zput_s _ _ _ _).trans (th2_0 hw hw2)
            exact ⟨hz99, m3, mfr_R hr99.2.1 (by omega) hr96.2.2.1, MPu_to hr99.2.2 h65 h266 h264, h66⟩
      · have h37 := zb_n.mp h37
        refine zx_iload dX10_adds_40 rfl ?_
        refine zx_i2l (by first | exact hz _ _ | assumption | exact zr_b _ | exact zcmp_r _ _ | (unfold zr at *; omega)) dX10_adds_42 ?_
        refine zx_lconst (a := 1) dX10_adds_43 rfl ?_
        refine zx_ldc2 (a := 9) dX10_adds_44 lk_RX10_447 ?_
        refine zy_cs [zl wt, zl 1, zl 9] (sX10_in  hfl hz (by first | exact hz _ _ | assumption | exact zr_b _ | exact zcmp_r _ _ | (unfold zr at *; omega)) (by first | exact hz _ _ | assumption | exact zr_b _ | exact zcmp_r _ _ | (unfold zr at *; omega)) (by first | exact hz _ _ | assumption | exact zr_b _ | exact zcmp_r _ _ | (unfold zr at *; omega))) dX10_adds_47 cw_RX10_74 okX10_in rfl (Nat.le_of_ble_eq_true rfl) ⟨Nat.le_of_ble_eq_true rfl, Nat.le_of_ble_eq_true rfl, Nat.le_of_ble_eq_true rfl, Nat.le_of_ble_eq_true rfl⟩ ?_
        refine zx_if_eq (tgt := 57) (by first | exact hz _ _ | assumption | exact zr_b _ | exact zcmp_r _ _ | (unfold zr at *; omega)) dX10_adds_50 (by decide) (fun h50 => ?_) (fun h50 => ?_)
        · have h50 := zb_0.mp h50
          refine zx_iconst dX10_adds_57 ?_
          refine zy_top (b := zb ((1 ≤ pg ∧ pg ≤ 999) ∧ ((if kd = 4 then 1450 else 0) ≤ vl ∧ vl ≤ mx) ∧ 1 ≤ wt ∧ wt ≤ 9)) (by first | exact (zb_t ⟨by assumption, by assumption, by assumption⟩).symm | exact (zb_f (fun q => absurd q.1 (by assumption))).symm | exact (zb_f (fun q => absurd q.2.1 (by assumption))).symm | exact (zb_f (fun q => absurd q.2.2 (by assumption))).symm) ?_
          refine zy_istore [zf 10 261, zi pg, zi kd, zi vl, zi wt, zi mx, zi (if kd = 4 then 1450 else 0), zi (zb ((1 ≤ pg ∧ pg ≤ 999) ∧ ((if kd = 4 then 1450 else 0) ≤ vl ∧ vl ≤ mx) ∧ 1 ≤ wt ∧ wt ≤ 9))] dX10_adds_58 (Nat.le_of_ble_eq_true rfl) (Nat.le_of_ble_eq_true rfl) rfl rfl ?_
          refine zx_aloadN dX10_adds_60 rfl rfl ?_
          refine zx_aloadN dX10_adds_61 rfl rfl ?_
          refine zx_iload dX10_adds_62 rfl ?_
          refine zx_aloadN dX10_adds_64 rfl rfl ?_
          refine zy_getR (q' := 262) fl_RX10_7 rfl dX10_adds_65 rfl ?_
          refine zx_iconst dX10_adds_68 ?_
          refine zy_iald (v := σ.1 262 3) rfl (by decide) (by decide) dX10_adds_69 (by omega) (by omega) rfl ?_
          refine zx_bipush dX10_adds_70 rfl ?_
          refine zx_icmp_ge (tgt := 79) (by first | exact hz _ _ | assumption | exact zr_b _ | exact zcmp_r _ _ | (unfold zr at *; omega)) (by first | exact hz _ _ | assumption | exact zr_b _ | exact zcmp_r _ _ | (unfold zr at *; omega)) dX10_adds_72 (by decide) (fun h72 => ?_) (fun h72 => ?_)
          · refine zx_iconst dX10_adds_79 ?_
            refine zy_top (b := zb (D 12 0 < 40)) (by first | exact (zb_t (by assumption)).symm | exact (zb_t (by omega)).symm | exact (zb_f (by omega)).symm | exact (zb_f (by assumption)).symm | exact (zb_f (fun q => q (by assumption))).symm) ?_
            refine zy_cv [zi (zb ((1 ≤ pg ∧ pg ≤ 999) ∧ ((if kd = 4 then 1450 else 0) ≤ vl ∧ vl ≤ mx) ∧ 1 ≤ wt ∧ wt ≤ 9)), zi (zb (D 12 0 < 40))] (sX10_passesBoth (A := ((1 ≤ pg ∧ pg ≤ 999) ∧ ((if kd = 4 then 1450 else 0) ≤ vl ∧ vl ≤ mx) ∧ 1 ≤ wt ∧ wt ≤ 9)) (B := (D 12 0 < 40)) hfl hz ) dX10_adds_80 (by decide) rfl cw_RX10_406 okX10_passesBoth rfl (Nat.le_of_ble_eq_true rfl) ⟨Nat.le_of_ble_eq_true rfl, Nat.le_of_ble_eq_true rfl, Nat.le_of_ble_eq_true rfl, Nat.le_of_ble_eq_true rfl⟩ ?_
            refine zy_cvR [zi (zb (((1 ≤ pg ∧ pg ≤ 999) ∧ ((if kd = 4 then 1450 else 0) ≤ vl ∧ vl ≤ mx) ∧ 1 ≤ wt ∧ wt ≤ 9) ∧ (D 12 0 < 40)))] (sX10_tried (A := (((1 ≤ pg ∧ pg ≤ 999) ∧ ((if kd = 4 then 1450 else 0) ≤ vl ∧ vl ≤ mx) ∧ 1 ≤ wt ∧ wt ≤ 9) ∧ (D 12 0 < 40))) hfl (zOK_put hz (th2_r _ _)) (⟨hw, hw2⟩ : (((1 ≤ pg ∧ pg ≤ 999) ∧ ((if kd = 4 then 1450 else 0) ≤ vl ∧ vl ≤ mx) ∧ 1 ≤ wt ∧ wt ≤ 9)) ∧ D 12 0 < 40)) dX10_adds_83 (by decide) rfl cw_RX10_449 okX10_tried rfl (Nat.le_of_ble_eq_true rfl) ⟨Nat.le_of_ble_eq_true rfl, Nat.le_of_ble_eq_true rfl, Nat.le_of_ble_eq_true rfl, Nat.le_of_ble_eq_true rfl⟩ (fun τ83 hr83 => ?_)
            have hz83 : zOK τ83 := hr83.1
            have hRt : Rel D (τ83.1 262) := mfr_R (mfr_cpo hr83.2 (by decide)) (by decide) (Rel_put (by decide) hR)
            have h5t : 0 ≤ τ83.1 261 5 ∧ τ83.1 261 5 ≤ 8 := by rw [hr83.2.1 261 (by decide), zput_i _ _ _ _ _ (by decide)]; exact hm5
            refine zx_if_eq (tgt := 105) (by first | exact hz83 _ _ | assumption | exact zr_b _ | exact zcmp_r _ _ | (unfold zr at *; omega)) dX10_adds_86 (by decide) (fun h86 => ?_) (fun h86 => ?_)
            · have h86 := zb_0.mp h86
              exact absurd (⟨hw, hw2⟩ : (((1 ≤ pg ∧ pg ≤ 999) ∧ ((if kd = 4 then 1450 else 0) ≤ vl ∧ vl ≤ mx) ∧ 1 ≤ wt ∧ wt ≤ 9)) ∧ D 12 0 < 40) (by assumption)
            · have h86 := zb_n.mp h86
              refine zx_aloadN dX10_adds_89 rfl rfl ?_
              refine zx_aloadN dX10_adds_90 rfl rfl ?_
              refine zx_iloadN dX10_adds_91 rfl rfl ?_
              refine zx_iloadN dX10_adds_92 rfl rfl ?_
              refine zx_iloadN dX10_adds_93 rfl rfl ?_
              refine zx_iload dX10_adds_94 rfl ?_
              refine zy_cvR [zi pg, zi kd, zi vl, zi wt] (sX10_clueNow (D := D) hfl hz83 (by first | assumption | omega) hRt (by first | exact hz83 _ _ | assumption | exact zr_b _ | exact zcmp_r _ _ | (unfold zr at *; omega)) (by first | exact hz83 _ _ | assumption | exact zr_b _ | exact zcmp_r _ _ | (unfold zr at *; omega)) (by first | exact hz83 _ _ | assumption | exact zr_b _ | exact zcmp_r _ _ | (unfold zr at *; omega)) (by first | exact hz83 _ _ | assumption | exact zr_b _ | exact zcmp_r _ _ | (unfold zr at *; omega)) (by first | assumption | omega)) dX10_adds_96 (by decide) rfl cw_RX10_372 okX10_clueNow rfl (Nat.le_of_ble_eq_true rfl) ⟨Nat.le_of_ble_eq_true rfl, Nat.le_of_ble_eq_true rfl, Nat.le_of_ble_eq_true rfl, Nat.le_of_ble_eq_true rfl⟩ (fun τ96 hr96 => ?_)
              have hz96 : zOK τ96 := hr96.1
              have h5n : 0 ≤ τ96.1 261 5 ∧ τ96.1 261 5 ≤ 8 := by rw [hr96.2.1.2.1 5 (by omega)]; exact h5t
              refine zy_cvR [zi (zb True)] (sX10_done (A := True) hfl hz96 h5n) dX10_adds_99 (by decide) rfl cw_RX10_452 okX10_done rfl (Nat.le_of_ble_eq_true rfl) ⟨Nat.le_of_ble_eq_true rfl, Nat.le_of_ble_eq_true rfl, Nat.le_of_ble_eq_true rfl, Nat.le_of_ble_eq_true rfl⟩ (fun τ99 hr99 => ?_)
              have hz99 : zOK τ99 := hr99.1
              refine zx_goto (tgt := 106) dX10_adds_102 (by decide) ?_
              refine zx_iret rfl rfl dX10_adds_106 ?_
              rw [hQ]
              refine ⟨congrArg (fun z : Int => (Sum.inl (some (zi z)) : Option zV ⊕ String)) ?_, ?_⟩
              · exact hr96.2.2.2
              have ht : mfr (zput σ 261 6 (th2 ((1 ≤ pg ∧ pg ≤ 999) ∧ ((if kd = 4 then 1450 else 0) ≤ vl ∧ vl ≤ mx) ∧ 1 ≤ wt ∧ wt ≤ 9) (D 12 0 < 40))) τ83 (fun k => k = 264) (fun _ => False) := mfr_cpo hr83.2 (by decide)
              have mB : mfr σ (zput σ 261 6 (th2 ((1 ≤ pg ∧ pg ≤ 999) ∧ ((if kd = 4 then 1450 else 0) ≤ vl ∧ vl ≤ mx) ∧ 1 ≤ wt ∧ wt ≤ 9) (D 12 0 < 40))) (fun _ => False) (fun i => i = 6) := mfr_mo (mfr_put261 (mfr_rf σ (fun _ => False) (fun _ => False))) (fun k q => q) (fun i q => by rcases q with q | q; exact absurd q id; exact q)
              have m1 : mfr σ τ83 mA mF := mfr_tr mB ht (fun k q => by rcases q with q | q; exact absurd q id; exact Or.inr (Or.inl q)) (fun i q => by rcases q with q | q; exact Or.inr (Or.inl q); exact absurd q id)
              have m2 : mfr σ τ96 mA mF := mfr_tr m1 hr96.2.1 (fun k q => by unfold mA at *; omega) (fun i q => by unfold mF at *; omega)
              have m3 : mfr σ τ99 mA mF := mfr_tr m2 hr99.2.1 (fun k q => by unfold mA at *; omega) (fun i q => by unfold mF at *; omega)
              have h264 : ∀ j, j < 380 → τ96.1 264 j = σ.1 262 j := fun j hj => by
                rw [hr96.2.1.1 264 (by omega) (by omega) j]
                have := hr83.2.2.2.1 j hj
                rw [Nat.zero_add] at this
                rw [this]; exact zput_k _ _ _ _ _ (by omega)
              have h266 : ∀ j, τ96.1 266 j = σ.1 266 j := fun j => by
                rw [hr96.2.1.1 266 (by omega) (by omega) j, ht.1 266 (by omega) (by omega) j]; exact zput_k _ _ _ _ _ (by omega)
              have h65 : τ96.1 261 5 = σ.1 261 5 := by
                rw [hr96.2.1.2.1 5 (by omega), ht.2.1 5 (fun q => q)]; exact zput_i _ _ _ _ _ (by omega)
              have h66 : τ99.1 261 6 = 0 := by
                rw [hr99.2.1.2.1 6 (by omega), hr96.2.1.2.1 6 (by omega), ht.2.1 6 (fun q => q)]; exact (zput_s _ _ _ _).trans (th2_0 hw hw2)
              exact ⟨hz99, m3, mfr_R hr99.2.1 (by omega) hr96.2.2.1, MPu_to hr99.2.2 h65 h266 h264, h66⟩
          · refine zx_iconst dX10_adds_75 ?_
            refine zx_goto (tgt := 80) dX10_adds_76 (by decide) ?_
            refine zy_top (b := zb (D 12 0 < 40)) (by first | exact (zb_t (by assumption)).symm | exact (zb_t (by omega)).symm | exact (zb_f (by omega)).symm | exact (zb_f (by assumption)).symm | exact (zb_f (fun q => q (by assumption))).symm) ?_
            refine zy_cv [zi (zb ((1 ≤ pg ∧ pg ≤ 999) ∧ ((if kd = 4 then 1450 else 0) ≤ vl ∧ vl ≤ mx) ∧ 1 ≤ wt ∧ wt ≤ 9)), zi (zb (D 12 0 < 40))] (sX10_passesBoth (A := ((1 ≤ pg ∧ pg ≤ 999) ∧ ((if kd = 4 then 1450 else 0) ≤ vl ∧ vl ≤ mx) ∧ 1 ≤ wt ∧ wt ≤ 9)) (B := (D 12 0 < 40)) hfl hz ) dX10_adds_80 (by decide) rfl cw_RX10_406 okX10_passesBoth rfl (Nat.le_of_ble_eq_true rfl) ⟨Nat.le_of_ble_eq_true rfl, Nat.le_of_ble_eq_true rfl, Nat.le_of_ble_eq_true rfl, Nat.le_of_ble_eq_true rfl⟩ ?_
            refine zy_cvR [zi (zb (((1 ≤ pg ∧ pg ≤ 999) ∧ ((if kd = 4 then 1450 else 0) ≤ vl ∧ vl ≤ mx) ∧ 1 ≤ wt ∧ wt ≤ 9) ∧ (D 12 0 < 40)))] (sX10_tried (A := (((1 ≤ pg ∧ pg ≤ 999) ∧ ((if kd = 4 then 1450 else 0) ≤ vl ∧ vl ≤ mx) ∧ 1 ≤ wt ∧ wt ≤ 9) ∧ (D 12 0 < 40))) hfl (zOK_put hz (th2_r _ _)) (⟨hw, hw2⟩ : (((1 ≤ pg ∧ pg ≤ 999) ∧ ((if kd = 4 then 1450 else 0) ≤ vl ∧ vl ≤ mx) ∧ 1 ≤ wt ∧ wt ≤ 9)) ∧ D 12 0 < 40)) dX10_adds_83 (by decide) rfl cw_RX10_449 okX10_tried rfl (Nat.le_of_ble_eq_true rfl) ⟨Nat.le_of_ble_eq_true rfl, Nat.le_of_ble_eq_true rfl, Nat.le_of_ble_eq_true rfl, Nat.le_of_ble_eq_true rfl⟩ (fun τ83 hr83 => ?_)
            have hz83 : zOK τ83 := hr83.1
            have hRt : Rel D (τ83.1 262) := mfr_R (mfr_cpo hr83.2 (by decide)) (by decide) (Rel_put (by decide) hR)
            have h5t : 0 ≤ τ83.1 261 5 ∧ τ83.1 261 5 ≤ 8 := by rw [hr83.2.1 261 (by decide), zput_i _ _ _ _ _ (by decide)]; exact hm5
            refine zx_if_eq (tgt := 105) (by first | exact hz83 _ _ | assumption | exact zr_b _ | exact zcmp_r _ _ | (unfold zr at *; omega)) dX10_adds_86 (by decide) (fun h86 => ?_) (fun h86 => ?_)
            · have h86 := zb_0.mp h86
              exact absurd (⟨hw, hw2⟩ : (((1 ≤ pg ∧ pg ≤ 999) ∧ ((if kd = 4 then 1450 else 0) ≤ vl ∧ vl ≤ mx) ∧ 1 ≤ wt ∧ wt ≤ 9)) ∧ D 12 0 < 40) (by assumption)
            · have h86 := zb_n.mp h86
              refine zx_aloadN dX10_adds_89 rfl rfl ?_
              refine zx_aloadN dX10_adds_90 rfl rfl ?_
              refine zx_iloadN dX10_adds_91 rfl rfl ?_
              refine zx_iloadN dX10_adds_92 rfl rfl ?_
              refine zx_iloadN dX10_adds_93 rfl rfl ?_
              refine zx_iload dX10_adds_94 rfl ?_
              refine zy_cvR [zi pg, zi kd, zi vl, zi wt] (sX10_clueNow (D := D) hfl hz83 (by first | assumption | omega) hRt (by first | exact hz83 _ _ | assumption | exact zr_b _ | exact zcmp_r _ _ | (unfold zr at *; omega)) (by first | exact hz83 _ _ | assumption | exact zr_b _ | exact zcmp_r _ _ | (unfold zr at *; omega)) (by first | exact hz83 _ _ | assumption | exact zr_b _ | exact zcmp_r _ _ | (unfold zr at *; omega)) (by first | exact hz83 _ _ | assumption | exact zr_b _ | exact zcmp_r _ _ | (unfold zr at *; omega)) (by first | assumption | omega)) dX10_adds_96 (by decide) rfl cw_RX10_372 okX10_clueNow rfl (Nat.le_of_ble_eq_true rfl) ⟨Nat.le_of_ble_eq_true rfl, Nat.le_of_ble_eq_true rfl, Nat.le_of_ble_eq_true rfl, Nat.le_of_ble_eq_true rfl⟩ (fun τ96 hr96 => ?_)
              have hz96 : zOK τ96 := hr96.1
              have h5n : 0 ≤ τ96.1 261 5 ∧ τ96.1 261 5 ≤ 8 := by rw [hr96.2.1.2.1 5 (by omega)]; exact h5t
              refine zy_cvR [zi (zb True)] (sX10_done (A := True) hfl hz96 h5n) dX10_adds_99 (by decide) rfl cw_RX10_452 okX10_done rfl (Nat.le_of_ble_eq_true rfl) ⟨Nat.le_of_ble_eq_true rfl, Nat.le_of_ble_eq_true rfl, Nat.le_of_ble_eq_true rfl, Nat.le_of_ble_eq_true rfl⟩ (fun τ99 hr99 => ?_)
              have hz99 : zOK τ99 := hr99.1
              refine zx_goto (tgt := 106) dX10_adds_102 (by decide) ?_
              refine zx_iret rfl rfl dX10_adds_106 ?_
              rw [hQ]
              refine ⟨congrArg (fun z : Int => (Sum.inl (some (zi z)) : Option zV ⊕ String)) ?_, ?_⟩
              · exact hr96.2.2.2
              have ht : mfr (zput σ 261 6 (th2 ((1 ≤ pg ∧ pg ≤ 999) ∧ ((if kd = 4 then 1450 else 0) ≤ vl ∧ vl ≤ mx) ∧ 1 ≤ wt ∧ wt ≤ 9) (D 12 0 < 40))) τ83 (fun k => k = 264) (fun _ => False) := mfr_cpo hr83.2 (by decide)
              have mB : mfr σ (zput σ 261 6 (th2 ((1 ≤ pg ∧ pg ≤ 999) ∧ ((if kd = 4 then 1450 else 0) ≤ vl ∧ vl ≤ mx) ∧ 1 ≤ wt ∧ wt ≤ 9) (D 12 0 < 40))) (fun _ => False) (fun i => i = 6) := mfr_mo (mfr_put261 (mfr_rf σ (fun _ => False) (fun _ => False))) (fun k q => q) (fun i q => by rcases q with q | q; exact absurd q id; exact q)
              have m1 : mfr σ τ83 mA mF := mfr_tr mB ht (fun k q => by rcases q with q | q; exact absurd q id; exact Or.inr (Or.inl q)) (fun i q => by rcases q with q | q; exact Or.inr (Or.inl q); exact absurd q id)
              have m2 : mfr σ τ96 mA mF := mfr_tr m1 hr96.2.1 (fun k q => by unfold mA at *; omega) (fun i q => by unfold mF at *; omega)
              have m3 : mfr σ τ99 mA mF := mfr_tr m2 hr99.2.1 (fun k q => by unfold mA at *; omega) (fun i q => by unfold mF at *; omega)
              have h264 : ∀ j, j < 380 → τ96.1 264 j = σ.1 262 j := fun j hj => by
                rw [hr96.2.1.1 264 (by omega) (by omega) j]
                have := hr83.2.2.2.1 j hj
                rw [Nat.zero_add] at this
                rw [this]; exact zput_k _ _ _ _ _ (by omega)
              have h266 : ∀ j, τ96.1 266 j = σ.1 266 j := fun j => by
                rw [hr96.2.1.1 266 (by omega) (by omega) j, ht.1 266 (by omega) (by omega) j]; exact zput_k _ _ _ _ _ (by omega)
              have h65 : τ96.1 261 5 = σ.1 261 5 := by
                rw [hr96.2.1.2.1 5 (by omega), ht.2.1 5 (fun q => q)]; exact zput_i _ _ _ _ _ (by omega)
              have h66 : τ99.1 261 6 = 0 := by
                rw [hr99.2.1.2.1 6 (by omega), hr96.2.1.2.1 6 (by omega), ht.2.1 6 (fun q => q)]; exact (zput_s _ _ _ _).trans (th2_0 hw hw2)
              exact ⟨hz99, m3, mfr_R hr99.2.1 (by omega) hr96.2.2.1, MPu_to hr99.2.2 h65 h266 h264, h66⟩
        · have h50 := zb_n.mp h50
          refine zx_iconst dX10_adds_53 ?_
          refine zx_goto (tgt := 58) dX10_adds_54 (by decide) ?_
          refine zy_top (b := zb ((1 ≤ pg ∧ pg ≤ 999) ∧ ((if kd = 4 then 1450 else 0) ≤ vl ∧ vl ≤ mx) ∧ 1 ≤ wt ∧ wt ≤ 9)) (by first | exact (zb_t ⟨by assumption, by assumption, by assumption⟩).symm | exact (zb_f (fun q => absurd q.1 (by assumption))).symm | exact (zb_f (fun q => absurd q.2.1 (by assumption))).symm | exact (zb_f (fun q => absurd q.2.2 (by assumption))).symm) ?_
          refine zy_istore [zf 10 261, zi pg, zi kd, zi vl, zi wt, zi mx, zi (if kd = 4 then 1450 else 0), zi (zb ((1 ≤ pg ∧ pg ≤ 999) ∧ ((if kd = 4 then 1450 else 0) ≤ vl ∧ vl ≤ mx) ∧ 1 ≤ wt ∧ wt ≤ 9))] dX10_adds_58 (Nat.le_of_ble_eq_true rfl) (Nat.le_of_ble_eq_true rfl) rfl rfl ?_
          refine zx_aloadN dX10_adds_60 rfl rfl ?_
          refine zx_aloadN dX10_adds_61 rfl rfl ?_
          refine zx_iload dX10_adds_62 rfl ?_
          refine zx_aloadN dX10_adds_64 rfl rfl ?_
          refine zy_getR (q' := 262) fl_RX10_7 rfl dX10_adds_65 rfl ?_
          refine zx_iconst dX10_adds_68 ?_
          refine zy_iald (v := σ.1 262 3) rfl (by decide) (by decide) dX10_adds_69 (by omega) (by omega) rfl ?_
          refine zx_bipush dX10_adds_70 rfl ?_
          refine zx_icmp_ge (tgt := 79) (by first | exact hz _ _ | assumption | exact zr_b _ | exact zcmp_r _ _ | (unfold zr at *; omega)) (by first | exact hz _ _ | assumption | exact zr_b _ | exact zcmp_r _ _ | (unfold zr at *; omega)) dX10_adds_72 (by decide) (fun h72 => ?_) (fun h72 => ?_)
          · refine zx_iconst dX10_adds_79 ?_
            refine zy_top (b := zb (D 12 0 < 40)) (by first | exact (zb_t (by assumption)).symm | exact (zb_t (by omega)).symm | exact (zb_f (by omega)).symm | exact (zb_f (by assumption)).symm | exact (zb_f (fun q => q (by assumption))).symm) ?_
            refine zy_cv [zi (zb ((1 ≤ pg ∧ pg ≤ 999) ∧ ((if kd = 4 then 1450 else 0) ≤ vl ∧ vl ≤ mx) ∧ 1 ≤ wt ∧ wt ≤ 9)), zi (zb (D 12 0 < 40))] (sX10_passesBoth (A := ((1 ≤ pg ∧ pg ≤ 999) ∧ ((if kd = 4 then 1450 else 0) ≤ vl ∧ vl ≤ mx) ∧ 1 ≤ wt ∧ wt ≤ 9)) (B := (D 12 0 < 40)) hfl hz ) dX10_adds_80 (by decide) rfl cw_RX10_406 okX10_passesBoth rfl (Nat.le_of_ble_eq_true rfl) ⟨Nat.le_of_ble_eq_true rfl, Nat.le_of_ble_eq_true rfl, Nat.le_of_ble_eq_true rfl, Nat.le_of_ble_eq_true rfl⟩ ?_
            refine zy_cvR [zi (zb (((1 ≤ pg ∧ pg ≤ 999) ∧ ((if kd = 4 then 1450 else 0) ≤ vl ∧ vl ≤ mx) ∧ 1 ≤ wt ∧ wt ≤ 9) ∧ (D 12 0 < 40)))] (sX10_tried (A := (((1 ≤ pg ∧ pg ≤ 999) ∧ ((if kd = 4 then 1450 else 0) ≤ vl ∧ vl ≤ mx) ∧ 1 ≤ wt ∧ wt ≤ 9) ∧ (D 12 0 < 40))) hfl (zOK_put hz (th2_r _ _)) (⟨hw, hw2⟩ : (((1 ≤ pg ∧ pg ≤ 999) ∧ ((if kd = 4 then 1450 else 0) ≤ vl ∧ vl ≤ mx) ∧ 1 ≤ wt ∧ wt ≤ 9)) ∧ D 12 0 < 40)) dX10_adds_83 (by decide) rfl cw_RX10_449 okX10_tried rfl (Nat.le_of_ble_eq_true rfl) ⟨Nat.le_of_ble_eq_true rfl, Nat.le_of_ble_eq_true rfl, Nat.le_of_ble_eq_true rfl, Nat.le_of_ble_eq_true rfl⟩ (fun τ83 hr83 => ?_)
            have hz83 : zOK τ83 := hr83.1
            have hRt : Rel D (τ83.1 262) := mfr_R (mfr_cpo hr83.2 (by decide)) (by decide) (Rel_put (by decide) hR)
            have h5t : 0 ≤ τ83.1 261 5 ∧ τ83.1 261 5 ≤ 8 := by rw [hr83.2.1 261 (by decide), zput_i _ _ _ _ _ (by decide)]; exact hm5
            refine zx_if_eq (tgt := 105) (by first | exact hz83 _ _ | assumption | exact zr_b _ | exact zcmp_r _ _ | (unfold zr at *; omega)) dX10_adds_86 (by decide) (fun h86 => ?_) (fun h86 => ?_)
            · have h86 := zb_0.mp h86
              exact absurd (⟨hw, hw2⟩ : (((1 ≤ pg ∧ pg ≤ 999) ∧ ((if kd = 4 then 1450 else 0) ≤ vl ∧ vl ≤ mx) ∧ 1 ≤ wt ∧ wt ≤ 9)) ∧ D 12 0 < 40) (by assumption)
            · have h86 := zb_n.mp h86
              refine zx_aloadN dX10_adds_89 rfl rfl ?_
              refine zx_aloadN dX10_adds_90 rfl rfl ?_
              refine zx_iloadN dX10_adds_91 rfl rfl ?_
              refine zx_iloadN dX10_adds_92 rfl rfl ?_
              refine zx_iloadN dX10_adds_93 rfl rfl ?_
              refine zx_iload dX10_adds_94 rfl ?_
              refine zy_cvR [zi pg, zi kd, zi vl, zi wt] (sX10_clueNow (D := D) hfl hz83 (by first | assumption | omega) hRt (by first | exact hz83 _ _ | assumption | exact zr_b _ | exact zcmp_r _ _ | (unfold zr at *; omega)) (by first | exact hz83 _ _ | assumption | exact zr_b _ | exact zcmp_r _ _ | (unfold zr at *; omega)) (by first | exact hz83 _ _ | assumption | exact zr_b _ | exact zcmp_r _ _ | (unfold zr at *; omega)) (by first | exact hz83 _ _ | assumption | exact zr_b _ | exact zcmp_r _ _ | (unfold zr at *; omega)) (by first | assumption | omega)) dX10_adds_96 (by decide) rfl cw_RX10_372 okX10_clueNow rfl (Nat.le_of_ble_eq_true rfl) ⟨Nat.le_of_ble_eq_true rfl, Nat.le_of_ble_eq_true rfl, Nat.le_of_ble_eq_true rfl, Nat.le_of_ble_eq_true rfl⟩ (fun τ96 hr96 => ?_)
              have hz96 : zOK τ96 := hr96.1
              have h5n : 0 ≤ τ96.1 261 5 ∧ τ96.1 261 5 ≤ 8 := by rw [hr96.2.1.2.1 5 (by omega)]; exact h5t
              refine zy_cvR [zi (zb True)] (sX10_done (A := True) hfl hz96 h5n) dX10_adds_99 (by decide) rfl cw_RX10_452 okX10_done rfl (Nat.le_of_ble_eq_true rfl) ⟨Nat.le_of_ble_eq_true rfl, Nat.le_of_ble_eq_true rfl, Nat.le_of_ble_eq_true rfl, Nat.le_of_ble_eq_true rfl⟩ (fun τ99 hr99 => ?_)
              have hz99 : zOK τ99 := hr99.1
              refine zx_goto (tgt := 106) dX10_adds_102 (by decide) ?_
              refine zx_iret rfl rfl dX10_adds_106 ?_
              rw [hQ]
              refine ⟨congrArg (fun z : Int => (Sum.inl (some (zi z)) : Option zV ⊕ String)) ?_, ?_⟩
              · exact hr96.2.2.2
              have ht : mfr (zput σ 261 6 (th2 ((1 ≤ pg ∧ pg ≤ 999) ∧ ((if kd = 4 then 1450 else 0) ≤ vl ∧ vl ≤ mx) ∧ 1 ≤ wt ∧ wt ≤ 9) (D 12 0 < 40))) τ83 (fun k => k = 264) (fun _ => False) := mfr_cpo hr83.2 (by decide)
              have mB : mfr σ (zput σ 261 6 (th2 ((1 ≤ pg ∧ pg ≤ 999) ∧ ((if kd = 4 then 1450 else 0) ≤ vl ∧ vl ≤ mx) ∧ 1 ≤ wt ∧ wt ≤ 9) (D 12 0 < 40))) (fun _ => False) (fun i => i = 6) := mfr_mo (mfr_put261 (mfr_rf σ (fun _ => False) (fun _ => False))) (fun k q => q) (fun i q => by rcases q with q | q; exact absurd q id; exact q)
              have m1 : mfr σ τ83 mA mF := mfr_tr mB ht (fun k q => by rcases q with q | q; exact absurd q id; exact Or.inr (Or.inl q)) (fun i q => by rcases q with q | q; exact Or.inr (Or.inl q); exact absurd q id)
              have m2 : mfr σ τ96 mA mF := mfr_tr m1 hr96.2.1 (fun k q => by unfold mA at *; omega) (fun i q => by unfold mF at *; omega)
              have m3 : mfr σ τ99 mA mF := mfr_tr m2 hr99.2.1 (fun k q => by unfold mA at *; omega) (fun i q => by unfold mF at *; omega)
              have h264 : ∀ j, j < 380 → τ96.1 264 j = σ.1 262 j := fun j hj => by
                rw [hr96.2.1.1 264 (by omega) (by omega) j]
                have := hr83.2.2.2.1 j hj
                rw [Nat.zero_add] at this
                rw [this]; exact zput_k _ _ _ _ _ (by omega)
              have h266 : ∀ j, τ96.1 266 j = σ.1 266 j := fun j => by
                rw [hr96.2.1.1 266 (by omega) (by omega) j, ht.1 266 (by omega) (by omega) j]; exact zput_k _ _ _ _ _ (by omega)
              have h65 : τ96.1 261 5 = σ.1 261 5 := by
                rw [hr96.2.1.2.1 5 (by omega), ht.2.1 5 (fun q => q)]; exact zput_i _ _ _ _ _ (by omega)
              have h66 : τ99.1 261 6 = 0 := by
                rw [hr99.2.1.2.1 6 (by omega), hr96.2.1.2.1 6 (by omega), ht.2.1 6 (fun q => q)]; exact (zput_s _ _ _ _).trans (th2_0 hw hw2)
              exact ⟨hz99, m3, mfr_R hr99.2.1 (by omega) hr96.2.2.1, MPu_to hr99.2.2 h65 h266 h264, h66⟩
          · refine zx_iconst dX10_adds_75 ?_
            refine zx_goto (tgt := 80) dX10_adds_76 (by decide) ?_
            refine zy_top (b := zb (D 12 0 < 40)) (by first | exact (zb_t (by assumption)).symm | exact (zb_t (by omega)).symm | exact (zb_f (by omega)).symm | exact (zb_f (by assumption)).symm | exact (zb_f (fun q => q (by assumption))).symm) ?_
            refine zy_cv [zi (zb ((1 ≤ pg ∧ pg ≤ 999) ∧ ((if kd = 4 then 1450 else 0) ≤ vl ∧ vl ≤ mx) ∧ 1 ≤ wt ∧ wt ≤ 9)), zi (zb (D 12 0 < 40))] (sX10_passesBoth (A := ((1 ≤ pg ∧ pg ≤ 999) ∧ ((if kd = 4 then 1450 else 0) ≤ vl ∧ vl ≤ mx) ∧ 1 ≤ wt ∧ wt ≤ 9)) (B := (D 12 0 < 40)) hfl hz ) dX10_adds_80 (by decide) rfl cw_RX10_406 okX10_passesBoth rfl (Nat.le_of_ble_eq_true rfl) ⟨Nat.le_of_ble_eq_true rfl, Nat.le_of_ble_eq_true rfl, Nat.le_of_ble_eq_true rfl, Nat.le_of_ble_eq_true rfl⟩ ?_
            refine zy_cvR [zi (zb (((1 ≤ pg ∧ pg ≤ 999) ∧ ((if kd = 4 then 1450 else 0) ≤ vl ∧ vl ≤ mx) ∧ 1 ≤ wt ∧ wt ≤ 9) ∧ (D 12 0 < 40)))] (sX10_tried (A := (((1 ≤ pg ∧ pg ≤ 999) ∧ ((if kd = 4 then 1450 else 0) ≤ vl ∧ vl ≤ mx) ∧ 1 ≤ wt ∧ wt ≤ 9) ∧ (D 12 0 < 40))) hfl (zOK_put hz (th2_r _ _)) (⟨hw, hw2⟩ : (((1 ≤ pg ∧ pg ≤ 999) ∧ ((if kd = 4 then 1450 else 0) ≤ vl ∧ vl ≤ mx) ∧ 1 ≤ wt ∧ wt ≤ 9)) ∧ D 12 0 < 40)) dX10_adds_83 (by decide) rfl cw_RX10_449 okX10_tried rfl (Nat.le_of_ble_eq_true rfl) ⟨Nat.le_of_ble_eq_true rfl, Nat.le_of_ble_eq_true rfl, Nat.le_of_ble_eq_true rfl, Nat.le_of_ble_eq_true rfl⟩ (fun τ83 hr83 => ?_)
            have hz83 : zOK τ83 := hr83.1
            have hRt : Rel D (τ83.1 262) := mfr_R (mfr_cpo hr83.2 (by decide)) (by decide) (Rel_put (by decide) hR)
            have h5t : 0 ≤ τ83.1 261 5 ∧ τ83.1 261 5 ≤ 8 := by rw [hr83.2.1 261 (by decide), zput_i _ _ _ _ _ (by decide)]; exact hm5
            refine zx_if_eq (tgt := 105) (by first | exact hz83 _ _ | assumption | exact zr_b _ | exact zcmp_r _ _ | (unfold zr at *; omega)) dX10_adds_86 (by decide) (fun h86 => ?_) (fun h86 => ?_)
            · have h86 := zb_0.mp h86
              exact absurd (⟨hw, hw2⟩ : (((1 ≤ pg ∧ pg ≤ 999) ∧ ((if kd = 4 then 1450 else 0) ≤ vl ∧ vl ≤ mx) ∧ 1 ≤ wt ∧ wt ≤ 9)) ∧ D 12 0 < 40) (by assumption)
            · have h86 := zb_n.mp h86
              refine zx_aloadN dX10_adds_89 rfl rfl ?_
              refine zx_aloadN dX10_adds_90 rfl rfl ?_
              refine zx_iloadN dX10_adds_91 rfl rfl ?_
              refine zx_iloadN dX10_adds_92 rfl rfl ?_
              refine zx_iloadN dX10_adds_93 rfl rfl ?_
              refine zx_iload dX10_adds_94 rfl ?_
              refine zy_cvR [zi pg, zi kd, zi vl, zi wt] (sX10_clueNow (D := D) hfl hz83 (by first | assumption | omega) hRt (by first | exact hz83 _ _ | assumption | exact zr_b _ | exact zcmp_r _ _ | (unfold zr at *; omega)) (by first | exact hz83 _ _ | assumption | exact zr_b _ | exact zcmp_r _ _ | (unfold zr at *; omega)) (by first | exact hz83 _ _ | assumption | exact zr_b _ | exact zcmp_r _ _ | (unfold zr at *; omega)) (by first | exact hz83 _ _ | assumption | exact zr_b _ | exact zcmp_r _ _ | (unfold zr at *; omega)) (by first | assumption | omega)) dX10_adds_96 (by decide) rfl cw_RX10_372 okX10_clueNow rfl (Nat.le_of_ble_eq_true rfl) ⟨Nat.le_of_ble_eq_true rfl, Nat.le_of_ble_eq_true rfl, Nat.le_of_ble_eq_true rfl, Nat.le_of_ble_eq_true rfl⟩ (fun τ96 hr96 => ?_)
              have hz96 : zOK τ96 := hr96.1
              have h5n : 0 ≤ τ96.1 261 5 ∧ τ96.1 261 5 ≤ 8 := by rw [hr96.2.1.2.1 5 (by omega)]; exact h5t
              refine zy_cvR [zi (zb True)] (sX10_done (A := True) hfl hz96 h5n) dX10_adds_99 (by decide) rfl cw_RX10_452 okX10_done rfl (Nat.le_of_ble_eq_true rfl) ⟨Nat.le_of_ble_eq_true rfl, Nat.le_of_ble_eq_true rfl, Nat.le_of_ble_eq_true rfl, Nat.le_of_ble_eq_true rfl⟩ (fun τ99 hr99 => ?_)
              have hz99 : zOK τ99 := hr99.1
              refine zx_goto (tgt := 106) dX10_adds_102 (by decide) ?_
              refine zx_iret rfl rfl dX10_adds_106 ?_
              rw [hQ]
              refine ⟨congrArg (fun z : Int => (Sum.inl (some (zi z)) : Option zV ⊕ String)) ?_, ?_⟩
              · exact hr96.2.2.2
              have ht : mfr (zput σ 261 6 (th2 ((1 ≤ pg ∧ pg ≤ 999) ∧ ((if kd = 4 then 1450 else 0) ≤ vl ∧ vl ≤ mx) ∧ 1 ≤ wt ∧ wt ≤ 9) (D 12 0 < 40))) τ83 (fun k => k = 264) (fun _ => False) := mfr_cpo hr83.2 (by decide)
              have mB : mfr σ (zput σ 261 6 (th2 ((1 ≤ pg ∧ pg ≤ 999) ∧ ((if kd = 4 then 1450 else 0) ≤ vl ∧ vl ≤ mx) ∧ 1 ≤ wt ∧ wt ≤ 9) (D 12 0 < 40))) (fun _ => False) (fun i => i = 6) := mfr_mo (mfr_put261 (mfr_rf σ (fun _ => False) (fun _ => False))) (fun k q => q) (fun i q => by rcases q with q | q; exact absurd q id; exact q)
              have m1 : mfr σ τ83 mA mF := mfr_tr mB ht (fun k q => by rcases q with q | q; exact absurd q id; exact Or.inr (Or.inl q)) (fun i q => by rcases q with q | q; exact Or.inr (Or.inl q); exact absurd q id)
              have m2 : mfr σ τ96 mA mF := mfr_tr m1 hr96.2.1 (fun k q => by unfold mA at *; omega) (fun i q => by unfold mF at *; omega)
              have m3 : mfr σ τ99 mA mF := mfr_tr m2 hr99.2.1 (fun k q => by unfold mA at *; omega) (fun i q => by unfold mF at *; omega)
              have h264 : ∀ j, j < 380 → τ96.1 264 j = σ.1 262 j := fun j hj => by
                rw [hr96.2.1.1 264 (by omega) (by omega) j]
                have := hr83.2.2.2.1 j hj
                rw [Nat.zero_add] at this
                rw [this]; exact zput_k _ _ _ _ _ (by omega)
              have h266 : ∀ j, τ96.1 266 j = σ.1 266 j := fun j => by
                rw [hr96.2.1.1 266 (by omega) (by omega) j, ht.1 266 (by omega) (by omega) j]; exact zput_k _ _ _ _ _ (by omega)
              have h65 : τ96.1 261 5 = σ.1 261 5 := by
                rw [hr96.2.1.2.1 5 (by omega), ht.2.1 5 (fun q => q)]; exact zput_i _ _ _ _ _ (by omega)
              have h66 : τ99.1 261 6 = 0 := by
                rw [hr99.2.1.2.1 6 (by omega), hr96.2.1.2.1 6 (by omega), ht.2.1 6 (fun q => q)]; exact (zput_s _ _ _ _).trans (th2_0 hw hw2)
              exact ⟨hz99, m3, mfr_R hr99.2.1 (by omega) hr96.2.2.1, MPu_to hr99.2.2 h65 h266 h264, h66⟩
  · refine zx_sipush dX10_adds_5 rfl ?_
    refine zx_goto (tgt := 12) dX10_adds_8 (by decide) ?_
    refine zy_top (b := (if kd = 4 then 1450 else 0)) (by first | exact (if_pos (by assumption)).symm | exact (if_neg (by assumption)).symm) ?_
    refine zy_istore [zf 10 261, zi pg, zi kd, zi vl, zi wt, zi mx, zi (if kd = 4 then 1450 else 0), zu] dX10_adds_12 (Nat.le_of_ble_eq_true rfl) (Nat.le_of_ble_eq_true rfl) rfl rfl ?_
    refine zx_iloadN dX10_adds_14 rfl rfl ?_
    have zlo : zr (if kd = 4 then 1450 else 0) := by split <;> (unfold zr; omega)
    refine zx_i2l (by first | exact hz _ _ | assumption | exact zr_b _ | exact zcmp_r _ _ | (unfold zr at *; omega)) dX10_adds_15 ?_
    refine zx_lconst (a := 1) dX10_adds_16 rfl ?_
    refine zx_ldc2 (a := 999) dX10_adds_17 lk_RX10_445 ?_
    refine zy_cs [zl pg, zl 1, zl 999] (sX10_in  hfl hz (by first | exact hz _ _ | assumption | exact zr_b _ | exact zcmp_r _ _ | (unfold zr at *; omega)) (by first | exact hz _ _ | assumption | exact zr_b _ | exact zcmp_r _ _ | (unfold zr at *; omega)) (by first | exact hz _ _ | assumption | exact zr_b _ | exact zcmp_r _ _ | (unfold zr at *; omega))) dX10_adds_20 cw_RX10_74 okX10_in rfl (Nat.le_of_ble_eq_true rfl) ⟨Nat.le_of_ble_eq_true rfl, Nat.le_of_ble_eq_true rfl, Nat.le_of_ble_eq_true rfl, Nat.le_of_ble_eq_true rfl⟩ ?_
    refine zx_if_eq (tgt := 57) (by first | exact hz _ _ | assumption | exact zr_b _ | exact zcmp_r _ _ | (unfold zr at *; omega)) dX10_adds_23 (by decide) (fun h23 => ?_) (fun h23 => ?_)
    · have h23 := zb_0.mp h23
      refine zx_iconst dX10_adds_57 ?_
      refine zy_top (b := zb ((1 ≤ pg ∧ pg ≤ 999) ∧ ((if kd = 4 then 1450 else 0) ≤ vl ∧ vl ≤ mx) ∧ 1 ≤ wt ∧ wt ≤ 9)) (by first | exact (zb_t ⟨by assumption, by assumption, by assumption⟩).symm | exact (zb_f (fun q => absurd q.1 (by assumption))).symm | exact (zb_f (fun q => absurd q.2.1 (by assumption))).symm | exact (zb_f (fun q => absurd q.2.2 (by assumption))).symm) ?_
      refine zy_istore [zf 10 261, zi pg, zi kd, zi vl, zi wt, zi mx, zi (if kd = 4 then 1450 else 0), zi (zb ((1 ≤ pg ∧ pg ≤ 999) ∧ ((if kd = 4 then 1450 else 0) ≤ vl ∧ vl ≤ mx) ∧ 1 ≤ wt ∧ wt ≤ 9))] dX10_adds_58 (Nat.le_of_ble_eq_true rfl) (Nat.le_of_ble_eq_true rfl) rfl rfl ?_
      refine zx_aloadN dX10_adds_60 rfl rfl ?_
      refine zx_aloadN dX10_adds_61 rfl rfl ?_
      refine zx_iload dX10_adds_62 rfl ?_
      refine zx_aloadN dX10_adds_64 rfl rfl ?_
      refine zy_getR (q' := 262) fl_RX10_7 rfl dX10_adds_65 rfl ?_
      refine zx_iconst dX10_adds_68 ?_
      refine zy_iald (v := σ.1 262 3) rfl (by decide) (by decide) dX10_adds_69 (by omega) (by omega) rfl ?_
      refine zx_bipush dX10_adds_70 rfl ?_
      refine zx_icmp_ge (tgt := 79) (by first | exact hz _ _ | assumption | exact zr_b _ | exact zcmp_r _ _ | (unfold zr at *; omega)) (by first | exact hz _ _ | assumption | exact zr_b _ | exact zcmp_r _ _ | (unfold zr at *; omega)) dX10_adds_72 (by decide) (fun h72 => ?_) (fun h72 => ?_)
      · refine zx_iconst dX10_adds_79 ?_
        refine zy_top (b := zb (D 12 0 < 40)) (by first | exact (zb_t (by assumption)).symm | exact (zb_t (by omega)).symm | exact (zb_f (by omega)).symm | exact (zb_f (by assumption)).symm | exact (zb_f (fun q => q (by assumption))).symm) ?_
        refine zy_cv [zi (zb ((1 ≤ pg ∧ pg ≤ 999) ∧ ((if kd = 4 then 1450 else 0) ≤ vl ∧ vl ≤ mx) ∧ 1 ≤ wt ∧ wt ≤ 9)), zi (zb (D 12 0 < 40))] (sX10_passesBoth (A := ((1 ≤ pg ∧ pg ≤ 999) ∧ ((if kd = 4 then 1450 else 0) ≤ vl ∧ vl ≤ mx) ∧ 1 ≤ wt ∧ wt ≤ 9)) (B := (D 12 0 < 40)) hfl hz ) dX10_adds_80 (by decide) rfl cw_RX10_406 okX10_passesBoth rfl (Nat.le_of_ble_eq_true rfl) ⟨Nat.le_of_ble_eq_true rfl, Nat.le_of_ble_eq_true rfl, Nat.le_of_ble_eq_true rfl, Nat.le_of_ble_eq_true rfl⟩ ?_
        refine zy_cvR [zi (zb (((1 ≤ pg ∧ pg ≤ 999) ∧ ((if kd = 4 then 1450 else 0) ≤ vl ∧ vl ≤ mx) ∧ 1 ≤ wt ∧ wt ≤ 9) ∧ (D 12 0 < 40)))] (sX10_tried (A := (((1 ≤ pg ∧ pg ≤ 999) ∧ ((if kd = 4 then 1450 else 0) ≤ vl ∧ vl ≤ mx) ∧ 1 ≤ wt ∧ wt ≤ 9) ∧ (D 12 0 < 40))) hfl (zOK_put hz (th2_r _ _)) (⟨hw, hw2⟩ : (((1 ≤ pg ∧ pg ≤ 999) ∧ ((if kd = 4 then 1450 else 0) ≤ vl ∧ vl ≤ mx) ∧ 1 ≤ wt ∧ wt ≤ 9)) ∧ D 12 0 < 40)) dX10_adds_83 (by decide) rfl cw_RX10_449 okX10_tried rfl (Nat.le_of_ble_eq_true rfl) ⟨Nat.le_of_ble_eq_true rfl, Nat.le_of_ble_eq_true rfl, Nat.le_of_ble_eq_true rfl, Nat.le_of_ble_eq_true rfl⟩ (fun τ83 hr83 => ?_)
        have hz83 : zOK τ83 := hr83.1
        have hRt : Rel D (τ83.1 262) := mfr_R (mfr_cpo hr83.2 (by decide)) (by decide) (Rel_put (by decide) hR)
        have h5t : 0 ≤ τ83.1 261 5 ∧ τ83.1 261 5 ≤ 8 := by rw [hr83.2.1 261 (by decide), zput_i _ _ _ _ _ (by decide)]; exact hm5
        refine zx_if_eq (tgt := 105) (by first | exact hz83 _ _ | assumption | exact zr_b _ | exact zcmp_r _ _ | (unfold zr at *; omega)) dX10_adds_86 (by decide) (fun h86 => ?_) (fun h86 => ?_)
        · have h86 := zb_0.mp h86
          exact absurd (⟨hw, hw2⟩ : (((1 ≤ pg ∧ pg ≤ 999) ∧ ((if kd = 4 then 1450 else 0) ≤ vl ∧ vl ≤ mx) ∧ 1 ≤ wt ∧ wt ≤ 9)) ∧ D 12 0 < 40) (by assumption)
        · have h86 := zb_n.mp h86
          refine zx_aloadN dX10_adds_89 rfl rfl ?_
          refine zx_aloadN dX10_adds_90 rfl rfl ?_
          refine zx_iloadN dX10_adds_91 rfl rfl ?_
          refine zx_iloadN dX10_adds_92 rfl rfl ?_
          refine zx_iloadN dX10_adds_93 rfl rfl ?_
          refine zx_iload dX10_adds_94 rfl ?_
          refine zy_cvR [zi pg, zi kd, zi vl, zi wt] (sX10_clueNow (D := D) hfl hz83 (by first | assumption | omega) hRt (by first | exact hz83 _ _ | assumption | exact zr_b _ | exact zcmp_r _ _ | (unfold zr at *; omega)) (by first | exact hz83 _ _ | assumption | exact zr_b _ | exact zcmp_r _ _ | (unfold zr at *; omega)) (by first | exact hz83 _ _ | assumption | exact zr_b _ | exact zcmp_r _ _ | (unfold zr at *; omega)) (by first | exact hz83 _ _ | assumption | exact zr_b _ | exact zcmp_r _ _ | (unfold zr at *; omega)) (by first | assumption | omega)) dX10_adds_96 (by decide) rfl cw_RX10_372 okX10_clueNow rfl (Nat.le_of_ble_eq_true rfl) ⟨Nat.le_of_ble_eq_true rfl, Nat.le_of_ble_eq_true rfl, Nat.le_of_ble_eq_true rfl, Nat.le_of_ble_eq_true rfl⟩ (fun τ96 hr96 => ?_)
          have hz96 : zOK τ96 := hr96.1
          have h5n : 0 ≤ τ96.1 261 5 ∧ τ96.1 261 5 ≤ 8 := by rw [hr96.2.1.2.1 5 (by omega)]; exact h5t
          refine zy_cvR [zi (zb True)] (sX10_done (A := True) hfl hz96 h5n) dX10_adds_99 (by decide) rfl cw_RX10_452 okX10_done rfl (Nat.le_of_ble_eq_true rfl) ⟨Nat.le_of_ble_eq_true rfl, Nat.le_of_ble_eq_true rfl, Nat.le_of_ble_eq_true rfl, Nat.le_of_ble_eq_true rfl⟩ (fun τ99 hr99 => ?_)
          have hz99 : zOK τ99 := hr99.1
          refine zx_goto (tgt := 106) dX10_adds_102 (by decide) ?_
          refine zx_iret rfl rfl dX10_adds_106 ?_
          rw [hQ]
          refine ⟨congrArg (fun z : Int => (Sum.inl (some (zi z)) : Option zV ⊕ String)) ?_, ?_⟩
          · exact hr96.2.2.2
          have ht : mfr (zput σ 261 6 (th2 ((1 ≤ pg ∧ pg ≤ 999) ∧ ((if kd = 4 then 1450 else 0) ≤ vl ∧ vl ≤ mx) ∧ 1 ≤ wt ∧ wt ≤ 9) (D 12 0 < 40))) τ83 (fun k => k = 264) (fun _ => False) := mfr_cpo hr83.2 (by decide)
          have mB : mfr σ (zput σ 261 6 (th2 ((1 ≤ pg ∧ pg ≤ 999) ∧ ((if kd = 4 then 1450 else 0) ≤ vl ∧ vl ≤ mx) ∧ 1 ≤ wt ∧ wt ≤ 9) (D 12 0 < 40))) (fun _ => False) (fun i => i = 6) := mfr_mo (mfr_put261 (mfr_rf σ (fun _ => False) (fun _ => False))) (fun k q => q) (fun i q => by rcases q with q | q; exact absurd q id; exact q)
          have m1 : mfr σ τ83 mA mF := mfr_tr mB ht (fun k q => by rcases q with q | q; exact absurd q id; exact Or.inr (Or.inl q)) (fun i q => by rcases q with q | q; exact Or.inr (Or.inl q); exact absurd q id)
          have m2 : mfr σ τ96 mA mF := mfr_tr m1 hr96.2.1 (fun k q => by unfold mA at *; omega) (fun i q => by unfold mF at *; omega)
          have m3 : mfr σ τ99 mA mF := mfr_tr m2 hr99.2.1 (fun k q => by unfold mA at *; omega) (fun i q => by unfold mF at *; omega)
          have h264 : ∀ j, j < 380 → τ96.1 264 j = σ.1 262 j := fun j hj => by
            rw [hr96.2.1.1 264 (by omega) (by omega) j]
            have := hr83.2.2.2.1 j hj
            rw [Nat.zero_add] at this
            rw [this]; exact zput_k _ _ _ _ _ (by omega)
          have h266 : ∀ j, τ96.1 266 j = σ.1 266 j := fun j => by
            rw [hr96.2.1.1 266 (by omega) (by omega) j, ht.1 266 (by omega) (by omega) j]; exact zput_k _ _ _ _ _ (by omega)
          have h65 : τ96.1 261 5 = σ.1 261 5 := by
            rw [hr96.2.1.2.1 5 (by omega), ht.2.1 5 (fun q => q)]; exact zput_i _ _ _ _ _ (by omega)
          have h66 : τ99.1 261 6 = 0 := by
            rw [hr99.2.1.2.1 6 (by omega), hr96.2.1.2.1 6 (by omega), ht.2.1 6 (fun q => q)]; exact (zput_s _ _ _ _).trans (th2_0 hw hw2)
          exact ⟨hz99, m3, mfr_R hr99.2.1 (by omega) hr96.2.2.1, MPu_to hr99.2.2 h65 h266 h264, h66⟩
      · refine zx_iconst dX10_adds_75 ?_
        refine zx_goto (tgt := 80) dX10_adds_76 (by decide) ?_
        refine zy_top (b := zb (D 12 0 < 40)) (by first | exact (zb_t (by assumption)).symm | exact (zb_t (by omega)).symm | exact (zb_f (by omega)).symm | exact (zb_f (by assumption)).symm | exact (zb_f (fun q => q (by assumption))).symm) ?_
        refine zy_cv [zi (zb ((1 ≤ pg ∧ pg ≤ 999) ∧ ((if kd = 4 then 1450 else 0) ≤ vl ∧ vl ≤ mx) ∧ 1 ≤ wt ∧ wt ≤ 9)), zi (zb (D 12 0 < 40))] (sX10_passesBoth (A := ((1 ≤ pg ∧ pg ≤ 999) ∧ ((if kd = 4 then 1450 else 0) ≤ vl ∧ vl ≤ mx) ∧ 1 ≤ wt ∧ wt ≤ 9)) (B := (D 12 0 < 40)) hfl hz ) dX10_adds_80 (by decide) rfl cw_RX10_406 okX10_passesBoth rfl (Nat.le_of_ble_eq_true rfl) ⟨Nat.le_of_ble_eq_true rfl, Nat.le_of_ble_eq_true rfl, Nat.le_of_ble_eq_true rfl, Nat.le_of_ble_eq_true rfl⟩ ?_
        refine zy_cvR [zi (zb (((1 ≤ pg ∧ pg ≤ 999) ∧ ((if kd = 4 then 1450 else 0) ≤ vl ∧ vl ≤ mx) ∧ 1 ≤ wt ∧ wt ≤ 9) ∧ (D 12 0 < 40)))] (sX10_tried (A := (((1 ≤ pg ∧ pg ≤ 999) ∧ ((if kd = 4 then 1450 else 0) ≤ vl ∧ vl ≤ mx) ∧ 1 ≤ wt ∧ wt ≤ 9) ∧ (D 12 0 < 40))) hfl (zOK_put hz (th2_r _ _)) (⟨hw, hw2⟩ : (((1 ≤ pg ∧ pg ≤ 999) ∧ ((if kd = 4 then 1450 else 0) ≤ vl ∧ vl ≤ mx) ∧ 1 ≤ wt ∧ wt ≤ 9)) ∧ D 12 0 < 40)) dX10_adds_83 (by decide) rfl cw_RX10_449 okX10_tried rfl (Nat.le_of_ble_eq_true rfl) ⟨Nat.le_of_ble_eq_true rfl, Nat.le_of_ble_eq_true rfl, Nat.le_of_ble_eq_true rfl, Nat.le_of_ble_eq_true rfl⟩ (fun τ83 hr83 => ?_)
        have hz83 : zOK τ83 := hr83.1
        have hRt : Rel D (τ83.1 262) := mfr_R (mfr_cpo hr83.2 (by decide)) (by decide) (Rel_put (by decide) hR)
        have h5t : 0 ≤ τ83.1 261 5 ∧ τ83.1 261 5 ≤ 8 := by rw [hr83.2.1 261 (by decide), zput_i _ _ _ _ _ (by decide)]; exact hm5
        refine zx_if_eq (tgt := 105) (by first | exact hz83 _ _ | assumption | exact zr_b _ | exact zcmp_r _ _ | (unfold zr at *; omega)) dX10_adds_86 (by decide) (fun h86 => ?_) (fun h86 => ?_)
        · have h86 := zb_0.mp h86
          exact absurd (⟨hw, hw2⟩ : (((1 ≤ pg ∧ pg ≤ 999) ∧ ((if kd = 4 then 1450 else 0) ≤ vl ∧ vl ≤ mx) ∧ 1 ≤ wt ∧ wt ≤ 9)) ∧ D 12 0 < 40) (by assumption)
        · have h86 := zb_n.mp h86
          refine zx_aloadN dX10_adds_89 rfl rfl ?_
          refine zx_aloadN dX10_adds_90 rfl rfl ?_
          refine zx_iloadN dX10_adds_91 rfl rfl ?_
          refine zx_iloadN dX10_adds_92 rfl rfl ?_
          refine zx_iloadN dX10_adds_93 rfl rfl ?_
          refine zx_iload dX10_adds_94 rfl ?_
          refine zy_cvR [zi pg, zi kd, zi vl, zi wt] (sX10_clueNow (D := D) hfl hz83 (by first | assumption | omega) hRt (by first | exact hz83 _ _ | assumption | exact zr_b _ | exact zcmp_r _ _ | (unfold zr at *; omega)) (by first | exact hz83 _ _ | assumption | exact zr_b _ | exact zcmp_r _ _ | (unfold zr at *; omega)) (by first | exact hz83 _ _ | assumption | exact zr_b _ | exact zcmp_r _ _ | (unfold zr at *; omega)) (by first | exact hz83 _ _ | assumption | exact zr_b _ | exact zcmp_r _ _ | (unfold zr at *; omega)) (by first | assumption | omega)) dX10_adds_96 (by decide) rfl cw_RX10_372 okX10_clueNow rfl (Nat.le_of_ble_eq_true rfl) ⟨Nat.le_of_ble_eq_true rfl, Nat.le_of_ble_eq_true rfl, Nat.le_of_ble_eq_true rfl, Nat.le_of_ble_eq_true rfl⟩ (fun τ96 hr96 => ?_)
          have hz96 : zOK τ96 := hr96.1
          have h5n : 0 ≤ τ96.1 261 5 ∧ τ96.1 261 5 ≤ 8 := by rw [hr96.2.1.2.1 5 (by omega)]; exact h5t
          refine zy_cvR [zi (zb True)] (sX10_done (A := True) hfl hz96 h5n) dX10_adds_99 (by decide) rfl cw_RX10_452 okX10_done rfl (Nat.le_of_ble_eq_true rfl) ⟨Nat.le_of_ble_eq_true rfl, Nat.le_of_ble_eq_true rfl, Nat.le_of_ble_eq_true rfl, Nat.le_of_ble_eq_true rfl⟩ (fun τ99 hr99 => ?_)
          have hz99 : zOK τ99 := hr99.1
          refine zx_goto (tgt := 106) dX10_adds_102 (by decide) ?_
          refine zx_iret rfl rfl dX10_adds_106 ?_
          rw [hQ]
          refine ⟨congrArg (fun z : Int => (Sum.inl (some (zi z)) : Option zV ⊕ String)) ?_, ?_⟩
          · exact hr96.2.2.2
          have ht : mfr (zput σ 261 6 (th2 ((1 ≤ pg ∧ pg ≤ 999) ∧ ((if kd = 4 then 1450 else 0) ≤ vl ∧ vl ≤ mx) ∧ 1 ≤ wt ∧ wt ≤ 9) (D 12 0 < 40))) τ83 (fun k => k = 264) (fun _ => False) := mfr_cpo hr83.2 (by decide)
          have mB : mfr σ (zput σ 261 6 (th2 ((1 ≤ pg ∧ pg ≤ 999) ∧ ((if kd = 4 then 1450 else 0) ≤ vl ∧ vl ≤ mx) ∧ 1 ≤ wt ∧ wt ≤ 9) (D 12 0 < 40))) (fun _ => False) (fun i => i = 6) := mfr_mo (mfr_put261 (mfr_rf σ (fun _ => False) (fun _ => False))) (fun k q => q) (fun i q => by rcases q with q | q; exact absurd q id; exact q)
          have m1 : mfr σ τ83 mA mF := mfr_tr mB ht (fun k q => by rcases q with q | q; exact absurd q id; exact Or.inr (Or.inl q)) (fun i q => by rcases q with q | q; exact Or.inr (Or.inl q); exact absurd q id)
          have m2 : mfr σ τ96 mA mF := mfr_tr m1 hr96.2.1 (fun k q => by unfold mA at *; omega) (fun i q => by unfold mF at *; omega)
          have m3 : mfr σ τ99 mA mF := mfr_tr m2 hr99.2.1 (fun k q => by unfold mA at *; omega) (fun i q => by unfold mF at *; omega)
          have h264 : ∀ j, j < 380 → τ96.1 264 j = σ.1 262 j := fun j hj => by
            rw [hr96.2.1.1 264 (by omega) (by omega) j]
            have := hr83.2.2.2.1 j hj
            rw [Nat.zero_add] at this
            rw [this]; exact zput_k _ _ _ _ _ (by omega)
          have h266 : ∀ j, τ96.1 266 j = σ.1 266 j := fun j => by
            rw [hr96.2.1.1 266 (by omega) (by omega) j, ht.1 266 (by omega) (by omega) j]; exact zput_k _ _ _ _ _ (by omega)
          have h65 : τ96.1 261 5 = σ.1 261 5 := by
            rw [hr96.2.1.2.1 5 (by omega), ht.2.1 5 (fun q => q)]; exact zput_i _ _ _ _ _ (by omega)
          have h66 : τ99.1 261 6 = 0 := by
            rw [hr99.2.1.2.1 6 (by omega), hr96.2.1.2.1 6 (by omega), ht.2.1 6 (fun q => q)]; exact (zput_s _ _ _ _).trans (th2_0 hw hw2)
          exact ⟨hz99, m3, mfr_R hr99.2.1 (by omega) hr96.2.2.1, MPu_to hr99.2.2 h65 h266 h264, h66⟩
    · have h23 := zb_n.mp h23
      refine zx_iloadN dX10_adds_26 rfl rfl ?_
      refine zx_i2l (by first | exact hz _ _ | assumption | exact zr_b _ | exact zcmp_r _ _ | (unfold zr at *; omega)) dX10_adds_27 ?_
      refine zx_iload dX10_adds_28 rfl ?_
      refine zx_i2l (by first | exact hz _ _ | assumption | exact zr_b _ | exact zcmp_r _ _ | (unfold zr at *; omega)) dX10_adds_30 ?_
      refine zx_iload dX10_adds_31 rfl ?_
      refine zx_i2l (by first | exact hz _ _ | assumption | exact zr_b _ | exact zcmp_r _ _ | (unfold zr at *; omega)) dX10_adds_33 ?_
      refine zy_cs [zl vl, zl (if kd = 4 then 1450 else 0), zl mx] (sX10_in  hfl hz (by first | exact hz _ _ | assumption | exact zr_b _ | exact zcmp_r _ _ | (unfold zr at *; omega)) (by first | exact hz _ _ | assumption | exact zr_b _ | exact zcmp_r _ _ | (unfold zr at *; omega)) (by first | exact hz _ _ | assumption | exact zr_b _ | exact zcmp_r _ _ | (unfold zr at *; omega))) dX10_adds_34 cw_RX10_74 okX10_in rfl (Nat.le_of_ble_eq_true rfl) ⟨Nat.le_of_ble_eq_true rfl, Nat.le_of_ble_eq_true rfl, Nat.le_of_ble_eq_true rfl, Nat.le_of_ble_eq_true rfl⟩ ?_
      refine zx_if_eq (tgt := 57) (by first | exact hz _ _ | assumption | exact zr_b _ | exact zcmp_r _ _ | (unfold zr at *; omega)) dX10_adds_37 (by decide) (fun h37 => ?_) (fun h37 => ?_)
      · have h37 := zb_0.mp h37
        refine zx_iconst dX10_adds_57 ?_
        refine zy_top (b := zb ((1 ≤ pg ∧ pg ≤ 999) ∧ ((if kd = 4 then 1450 else 0) ≤ vl ∧ vl ≤ mx) ∧ 1 ≤ wt ∧ wt ≤ 9)) (by first | exact (zb_t ⟨by assumption, by assumption, by assumption⟩).symm | exact (zb_f (fun q => absurd q.1 (by assumption))).symm | exact (zb_f (fun q => absurd q.2.1 (by assumption))).symm | exact (zb_f (fun q => absurd q.2.2 (by assumption))).symm) ?_
        refine zy_istore [zf 10 261, zi pg, zi kd, zi vl, zi wt, zi mx, zi (if kd = 4 then 1450 else 0), zi (zb ((1 ≤ pg ∧ pg ≤ 999) ∧ ((if kd = 4 then 1450 else 0) ≤ vl ∧ vl ≤ mx) ∧ 1 ≤ wt ∧ wt ≤ 9))] dX10_adds_58 (Nat.le_of_ble_eq_true rfl) (Nat.le_of_ble_eq_true rfl) rfl rfl ?_
        refine zx_aloadN dX10_adds_60 rfl rfl ?_
        refine zx_aloadN dX10_adds_61 rfl rfl ?_
        refine zx_iload dX10_adds_62 rfl ?_
        refine zx_aloadN dX10_adds_64 rfl rfl ?_
        refine zy_getR (q' := 262) fl_RX10_7 rfl dX10_adds_65 rfl ?_
        refine zx_iconst dX10_adds_68 ?_
        refine zy_iald (v := σ.1 262 3) rfl (by decide) (by decide) dX10_adds_69 (by omega) (by omega) rfl ?_
        refine zx_bipush dX10_adds_70 rfl ?_
        refine zx_icmp_ge (tgt := 79) (by first | exact hz _ _ | assumption | exact zr_b _ | exact zcmp_r _ _ | (unfold zr at *; omega)) (by first | exact hz _ _ | assumption | exact zr_b _ | exact zcmp_r _ _ | (unfold zr at *; omega)) dX10_adds_72 (by decide) (fun h72 => ?_) (fun h72 => ?_)
        · refine zx_iconst dX10_adds_79 ?_
          refine zy_top (b := zb (D 12 0 < 40)) (by first | exact (zb_t (by assumption)).symm | exact (zb_t (by omega)).symm | exact (zb_f (by omega)).symm | exact (zb_f (by assumption)).symm | exact (zb_f (fun q => q (by assumption))).symm) ?_
          refine zy_cv [zi (zb ((1 ≤ pg ∧ pg ≤ 999) ∧ ((if kd = 4 then 1450 else 0) ≤ vl ∧ vl ≤ mx) ∧ 1 ≤ wt ∧ wt ≤ 9)), zi (zb (D 12 0 < 40))] (sX10_passesBoth (A := ((1 ≤ pg ∧ pg ≤ 999) ∧ ((if kd = 4 then 1450 else 0) ≤ vl ∧ vl ≤ mx) ∧ 1 ≤ wt ∧ wt ≤ 9)) (B := (D 12 0 < 40)) hfl hz ) dX10_adds_80 (by decide) rfl cw_RX10_406 okX10_passesBoth rfl (Nat.le_of_ble_eq_true rfl) ⟨Nat.le_of_ble_eq_true rfl, Nat.le_of_ble_eq_true rfl, Nat.le_of_ble_eq_true rfl, Nat.le_of_ble_eq_true rfl⟩ ?_
          refine zy_cvR [zi (zb (((1 ≤ pg ∧ pg ≤ 999) ∧ ((if kd = 4 then 1450 else 0) ≤ vl ∧ vl ≤ mx) ∧ 1 ≤ wt ∧ wt ≤ 9) ∧ (D 12 0 < 40)))] (sX10_tried (A := (((1 ≤ pg ∧ pg ≤ 999) ∧ ((if kd = 4 then 1450 else 0) ≤ vl ∧ vl ≤ mx) ∧ 1 ≤ wt ∧ wt ≤ 9) ∧ (D 12 0 < 40))) hfl (zOK_put hz (th2_r _ _)) (⟨hw, hw2⟩ : (((1 ≤ pg ∧ pg ≤ 999) ∧ ((if kd = 4 then 1450 else 0) ≤ vl ∧ vl ≤ mx) ∧ 1 ≤ wt ∧ wt ≤ 9)) ∧ D 12 0 < 40)) dX10_adds_83 (by decide) rfl cw_RX10_449 okX10_tried rfl (Nat.le_of_ble_eq_true rfl) ⟨Nat.le_of_ble_eq_true rfl, Nat.le_of_ble_eq_true rfl, Nat.le_of_ble_eq_true rfl, Nat.le_of_ble_eq_true rfl⟩ (fun τ83 hr83 => ?_)
          have hz83 : zOK τ83 := hr83.1
          have hRt : Rel D (τ83.1 262) := mfr_R (mfr_cpo hr83.2 (by decide)) (by decide) (Rel_put (by decide) hR)
          have h5t : 0 ≤ τ83.1 261 5 ∧ τ83.1 261 5 ≤ 8 := by rw [hr83.2.1 261 (by decide), zput_i _ _ _ _ _ (by decide)]; exact hm5
          refine zx_if_eq (tgt := 105) (by first | exact hz83 _ _ | assumption | exact zr_b _ | exact zcmp_r _ _ | (unfold zr at *; omega)) dX10_adds_86 (by decide) (fun h86 => ?_) (fun h86 => ?_)
          · have h86 := zb_0.mp h86
            exact absurd (⟨hw, hw2⟩ : (((1 ≤ pg ∧ pg ≤ 999) ∧ ((if kd = 4 then 1450 else 0) ≤ vl ∧ vl ≤ mx) ∧ 1 ≤ wt ∧ wt ≤ 9)) ∧ D 12 0 < 40) (by assumption)
          · have h86 := zb_n.mp h86
            refine zx_aloadN dX10_adds_89 rfl rfl ?_
            refine zx_aloadN dX10_adds_90 rfl rfl ?_
            refine zx_iloadN dX10_adds_91 rfl rfl ?_
            refine zx_iloadN dX10_adds_92 rfl rfl ?_
            refine zx_iloadN dX10_adds_93 rfl rfl ?_
            refine zx_iload dX10_adds_94 rfl ?_
            refine zy_cvR [zi pg, zi kd, zi vl, zi wt] (sX10_clueNow (D := D) hfl hz83 (by first | assumption | omega) hRt (by first | exact hz83 _ _ | assumption | exact zr_b _ | exact zcmp_r _ _ | (unfold zr at *; omega)) (by first | exact hz83 _ _ | assumption | exact zr_b _ | exact zcmp_r _ _ | (unfold zr at *; omega)) (by first | exact hz83 _ _ | assumption | exact zr_b _ | exact zcmp_r _ _ | (unfold zr at *; omega)) (by first | exact hz83 _ _ | assumption | exact zr_b _ | exact zcmp_r _ _ | (unfold zr at *; omega)) (by first | assumption | omega)) dX10_adds_96 (by decide) rfl cw_RX10_372 okX10_clueNow rfl (Nat.le_of_ble_eq_true rfl) ⟨Nat.le_of_ble_eq_true rfl, Nat.le_of_ble_eq_true rfl, Nat.le_of_ble_eq_true rfl, Nat.le_of_ble_eq_true rfl⟩ (fun τ96 hr96 => ?_)
            have hz96 : zOK τ96 := hr96.1
            have h5n : 0 ≤ τ96.1 261 5 ∧ τ96.1 261 5 ≤ 8 := by rw [hr96.2.1.2.1 5 (by omega)]; exact h5t
            refine zy_cvR [zi (zb True)] (sX10_done (A := True) hfl hz96 h5n) dX10_adds_99 (by decide) rfl cw_RX10_452 okX10_done rfl (Nat.le_of_ble_eq_true rfl) ⟨Nat.le_of_ble_eq_true rfl, Nat.le_of_ble_eq_true rfl, Nat.le_of_ble_eq_true rfl, Nat.le_of_ble_eq_true rfl⟩ (fun τ99 hr99 => ?_)
            have hz99 : zOK τ99 := hr99.1
            refine zx_goto (tgt := 106) dX10_adds_102 (by decide) ?_
            refine zx_iret rfl rfl dX10_adds_106 ?_
            rw [hQ]
            refine ⟨congrArg (fun z : Int => (Sum.inl (some (zi z)) : Option zV ⊕ String)) ?_, ?_⟩
            · exact hr96.2.2.2
            have ht : mfr (zput σ 261 6 (th2 ((1 ≤ pg ∧ pg ≤ 999) ∧ ((if kd = 4 then 1450 else 0) ≤ vl ∧ vl ≤ mx) ∧ 1 ≤ wt ∧ wt ≤ 9) (D 12 0 < 40))) τ83 (fun k => k = 264) (fun _ => False) := mfr_cpo hr83.2 (by decide)
            have mB : mfr σ (zput σ 261 6 (th2 ((1 ≤ pg ∧ pg ≤ 999) ∧ ((if kd = 4 then 1450 else 0) ≤ vl ∧ vl ≤ mx) ∧ 1 ≤ wt ∧ wt ≤ 9) (D 12 0 < 40))) (fun _ => False) (fun i => i = 6) := mfr_mo (mfr_put261 (mfr_rf σ (fun _ => False) (fun _ => False))) (fun k q => q) (fun i q => by rcases q with q | q; exact absurd q id; exact q)
            have m1 : mfr σ τ83 mA mF := mfr_tr mB ht (fun k q => by rcases q with q | q; exact absurd q id; exact Or.inr (Or.inl q)) (fun i q => by rcases q with q | q; exact Or.inr (Or.inl q); exact absurd q id)
            have m2 : mfr σ τ96 mA mF := mfr_tr m1 hr96.2.1 (fun k q => by unfold mA at *; omega) (fun i q => by unfold mF at *; omega)
            have m3 : mfr σ τ99 mA mF := mfr_tr m2 hr99.2.1 (fun k q => by unfold mA at *; omega) (fun i q => by unfold mF at *; omega)
            have h264 : ∀ j, j < 380 → τ96.1 264 j = σ.1 262 j := fun j hj => by
              rw [hr96.2.1.1 264 (by omega) (by omega) j]
              have := hr83.2.2.2.1 j hj
              rw [Nat.zero_add] at this
              rw [this]; exact zput_k _ _ _ _ _ (by omega)
            have h266 : ∀ j, τ96.1 266 j = σ.1 266 j := fun j => by
              rw [hr96.2.1.1 266 (by omega) (by omega) j, ht.1 266 (by omega) (by omega) j]; exact zput_k _ _ _ _ _ (by omega)
            have h65 : τ96.1 261 5 = σ.1 261 5 := by
              rw [hr96.2.1.2.1 5 (by omega), ht.2.1 5 (fun q => q)]; exact zput_i _ _ _ _ _ (by omega)
            have h66 : τ99.1 261 6 = 0 := by
              rw [hr99.2.1.2.1 6 (by omega), hr96.2.1.2.1 6 (by omega), ht.2.1 6 (fun q => q)]; exact (zput_s _ _ _ _).trans (th2_0 hw hw2)
            exact ⟨hz99, m3, mfr_R hr99.2.1 (by omega) hr96.2.2.1, MPu_to hr99.2.2 h65 h266 h264, h66⟩
        · refine zx_iconst dX10_adds_75 ?_
          refine zx_goto (tgt := 80) dX10_adds_76 (by decide) ?_
          refine zy_top (b := zb (D 12 0 < 40)) (by first | exact (zb_t (by assumption)).symm | exact (zb_t (by omega)).symm | exact (zb_f (by omega)).symm | exact (zb_f (by assumption)).symm | exact (zb_f (fun q => q (by assumption))).symm) ?_
          refine zy_cv [zi (zb ((1 ≤ pg ∧ pg ≤ 999) ∧ ((if kd = 4 then 1450 else 0) ≤ vl ∧ vl ≤ mx) ∧ 1 ≤ wt ∧ wt ≤ 9)), zi (zb (D 12 0 < 40))] (sX10_passesBoth (A := ((1 ≤ pg ∧ pg ≤ 999) ∧ ((if kd = 4 then 1450 else 0) ≤ vl ∧ vl ≤ mx) ∧ 1 ≤ wt ∧ wt ≤ 9)) (B := (D 12 0 < 40)) hfl hz ) dX10_adds_80 (by decide) rfl cw_RX10_406 okX10_passesBoth rfl (Nat.le_of_ble_eq_true rfl) ⟨Nat.le_of_ble_eq_true rfl, Nat.le_of_ble_eq_true rfl, Nat.le_of_ble_eq_true rfl, Nat.le_of_ble_eq_true rfl⟩ ?_
          refine zy_cvR [zi (zb (((1 ≤ pg ∧ pg ≤ 999) ∧ ((if kd = 4 then 1450 else 0) ≤ vl ∧ vl ≤ mx) ∧ 1 ≤ wt ∧ wt ≤ 9) ∧ (D 12 0 < 40)))] (sX10_tried (A := (((1 ≤ pg ∧ pg ≤ 999) ∧ ((if kd = 4 then 1450 else 0) ≤ vl ∧ vl ≤ mx) ∧ 1 ≤ wt ∧ wt ≤ 9) ∧ (D 12 0 < 40))) hfl (zOK_put hz (th2_r _ _)) (⟨hw, hw2⟩ : (((1 ≤ pg ∧ pg ≤ 999) ∧ ((if kd = 4 then 1450 else 0) ≤ vl ∧ vl ≤ mx) ∧ 1 ≤ wt ∧ wt ≤ 9)) ∧ D 12 0 < 40)) dX10_adds_83 (by decide) rfl cw_RX10_449 okX10_tried rfl (Nat.le_of_ble_eq_true rfl) ⟨Nat.le_of_ble_eq_true rfl, Nat.le_of_ble_eq_true rfl, Nat.le_of_ble_eq_true rfl, Nat.le_of_ble_eq_true rfl⟩ (fun τ83 hr83 => ?_)
          have hz83 : zOK τ83 := hr83.1
          have hRt : Rel D (τ83.1 262) := mfr_R (mfr_cpo hr83.2 (by decide)) (by decide) (Rel_put (by decide) hR)
          have h5t : 0 ≤ τ83.1 261 5 ∧ τ83.1 261 5 ≤ 8 := by rw [hr83.2.1 261 (by decide), zput_i _ _ _ _ _ (by decide)]; exact hm5
          refine zx_if_eq (tgt := 105) (by first | exact hz83 _ _ | assumption | exact zr_b _ | exact zcmp_r _ _ | (unfold zr at *; omega)) dX10_adds_86 (by decide) (fun h86 => ?_) (fun h86 => ?_)
          · have h86 := zb_0.mp h86
            exact absurd (⟨hw, hw2⟩ : (((1 ≤ pg ∧ pg ≤ 999) ∧ ((if kd = 4 then 1450 else 0) ≤ vl ∧ vl ≤ mx) ∧ 1 ≤ wt ∧ wt ≤ 9)) ∧ D 12 0 < 40) (by assumption)
          · have h86 := zb_n.mp h86
            refine zx_aloadN dX10_adds_89 rfl rfl ?_
            refine zx_aloadN dX10_adds_90 rfl rfl ?_
            refine zx_iloadN dX10_adds_91 rfl rfl ?_
            refine zx_iloadN dX10_adds_92 rfl rfl ?_
            refine zx_iloadN dX10_adds_93 rfl rfl ?_
            refine zx_iload dX10_adds_94 rfl ?_
            refine zy_cvR [zi pg, zi kd, zi vl, zi wt] (sX10_clueNow (D := D) hfl hz83 (by first | assumption | omega) hRt (by first | exact hz83 _ _ | assumption | exact zr_b _ | exact zcmp_r _ _ | (unfold zr at *; omega)) (by first | exact hz83 _ _ | assumption | exact zr_b _ | exact zcmp_r _ _ | (unfold zr at *; omega)) (by first | exact hz83 _ _ | assumption | exact zr_b _ | exact zcmp_r _ _ | (unfold zr at *; omega)) (by first | exact hz83 _ _ | assumption | exact zr_b _ | exact zcmp_r _ _ | (unfold zr at *; omega)) (by first | assumption | omega)) dX10_adds_96 (by decide) rfl cw_RX10_372 okX10_clueNow rfl (Nat.le_of_ble_eq_true rfl) ⟨Nat.le_of_ble_eq_true rfl, Nat.le_of_ble_eq_true rfl, Nat.le_of_ble_eq_true rfl, Nat.le_of_ble_eq_true rfl⟩ (fun τ96 hr96 => ?_)
            have hz96 : zOK τ96 := hr96.1
            have h5n : 0 ≤ τ96.1 261 5 ∧ τ96.1 261 5 ≤ 8 := by rw [hr96.2.1.2.1 5 (by omega)]; exact h5t
            refine zy_cvR [zi (zb True)] (sX10_done (A := True) hfl hz96 h5n) dX10_adds_99 (by decide) rfl cw_RX10_452 okX10_done rfl (Nat.le_of_ble_eq_true rfl) ⟨Nat.le_of_ble_eq_true rfl, Nat.le_of_ble_eq_true rfl, Nat.le_of_ble_eq_true rfl, Nat.le_of_ble_eq_true rfl⟩ (fun τ99 hr99 => ?_)
            have hz99 : zOK τ99 := hr99.1
            refine zx_goto (tgt := 106) dX10_adds_102 (by decide) ?_
            refine zx_iret rfl rfl dX10_adds_106 ?_
            rw [hQ]
            refine ⟨congrArg (fun z : Int => (Sum.inl (some (zi z)) : Option zV ⊕ String)) ?_, ?_⟩
            · exact hr96.2.2.2
            have ht : mfr (zput σ 261 6 (th2 ((1 ≤ pg ∧ pg ≤ 999) ∧ ((if kd = 4 then 1450 else 0) ≤ vl ∧ vl ≤ mx) ∧ 1 ≤ wt ∧ wt ≤ 9) (D 12 0 < 40))) τ83 (fun k => k = 264) (fun _ => False) := mfr_cpo hr83.2 (by decide)
            have mB : mfr σ (zput σ 261 6 (th2 ((1 ≤ pg ∧ pg ≤ 999) ∧ ((if kd = 4 then 1450 else 0) ≤ vl ∧ vl ≤ mx) ∧ 1 ≤ wt ∧ wt ≤ 9) (D 12 0 < 40))) (fun _ => False) (fun i => i = 6) := mfr_mo (mfr_put261 (mfr_rf σ (fun _ => False) (fun _ => False))) (fun k q => q) (fun i q => by rcases q with q | q; exact absurd q id; exact q)
            have m1 : mfr σ τ83 mA mF := mfr_tr mB ht (fun k q => by rcases q with q | q; exact absurd q id; exact Or.inr (Or.inl q)) (fun i q => by rcases q with q | q; exact Or.inr (Or.inl q); exact absurd q id)
            have m2 : mfr σ τ96 mA mF := mfr_tr m1 hr96.2.1 (fun k q => by unfold mA at *; omega) (fun i q => by unfold mF at *; omega)
            have m3 : mfr σ τ99 mA mF := mfr_tr m2 hr99.2.1 (fun k q => by unfold mA at *; omega) (fun i q => by unfold mF at *; omega)
            have h264 : ∀ j, j < 380 → τ96.1 264 j = σ.1 262 j := fun j hj => by
              rw [hr96.2.1.1 264 (by omega) (by omega) j]
              have := hr83.2.2.2.1 j hj
              rw [Nat.zero_add] at this
              rw [this]; exact zput_k _ _ _ _ _ (by omega)
            have h266 : ∀ j, τ96.1 266 j = σ.1 266 j := fun j => by
              rw [hr96.2.1.1 266 (by omega) (by omega) j, ht.1 266 (by omega) (by omega) j]; exact zput_k _ _ _ _ _ (by omega)
            have h65 : τ96.1 261 5 = σ.1 261 5 := by
              rw [hr96.2.1.2.1 5 (by omega), ht.2.1 5 (fun q => q)]; exact zput_i _ _ _ _ _ (by omega)
            have h66 : τ99.1 261 6 = 0 := by
              rw [hr99.2.1.2.1 6 (by omega), hr96.2.1.2.1 6 (by omega), ht.2.1 6 (fun q => q)]; exact (zput_s _ _ _ _).trans (th2_0 hw hw2)
            exact ⟨hz99, m3, mfr_R hr99.2.1 (by omega) hr96.2.2.1, MPu_to hr99.2.2 h65 h266 h264, h66⟩
      · have h37 := zb_n.mp h37
        refine zx_iload dX10_adds_40 rfl ?_
        refine zx_i2l (by first | exact hz _ _ | assumption | exact zr_b _ | exact zcmp_r _ _ | (unfold zr at *; omega)) dX10_adds_42 ?_
        refine zx_lconst (a := 1) dX10_adds_43 rfl ?_
        refine zx_ldc2 (a := 9) dX10_adds_44 lk_RX10_447 ?_
        refine zy_cs [zl wt, zl 1, zl 9] (sX10_in  hfl hz (by first | exact hz _ _ | assumption | exact zr_b _ | exact zcmp_r _ _ | (unfold zr at *; omega)) (by first | exact hz _ _ | assumption | exact zr_b _ | exact zcmp_r _ _ | (unfold zr at *; omega)) (by first | exact hz _ _ | assumption | exact zr_b _ | exact zcmp_r _ _ | (unfold zr at *; omega))) dX10_adds_47 cw_RX10_74 okX10_in rfl (Nat.le_of_ble_eq_true rfl) ⟨Nat.le_of_ble_eq_true rfl, Nat.le_of_ble_eq_true rfl, Nat.le_of_ble_eq_true rfl, Nat.le_of_ble_eq_true rfl⟩ ?_
        refine zx_if_eq (tgt := 57) (by first | exact hz _ _ | assumption | exact zr_b _ | exact zcmp_r _ _ | (unfold zr at *; omega)) dX10_adds_50 (by decide) (fun h50 => ?_) (fun h50 => ?_)
        · have h50 := zb_0.mp h50
          refine zx_iconst dX10_adds_57 ?_
          refine zy_top (b := zb ((1 ≤ pg ∧ pg ≤ 999) ∧ ((if kd = 4 then 1450 else 0) ≤ vl ∧ vl ≤ mx) ∧ 1 ≤ wt ∧ wt ≤ 9)) (by first | exact (zb_t ⟨by assumption, by assumption, by assumption⟩).symm | exact (zb_f (fun q => absurd q.1 (by assumption))).symm | exact (zb_f (fun q => absurd q.2.1 (by assumption))).symm | exact (zb_f (fun q => absurd q.2.2 (by assumption))).symm) ?_
          refine zy_istore [zf 10 261, zi pg, zi kd, zi vl, zi wt, zi mx, zi (if kd = 4 then 1450 else 0), zi (zb ((1 ≤ pg ∧ pg ≤ 999) ∧ ((if kd = 4 then 1450 else 0) ≤ vl ∧ vl ≤ mx) ∧ 1 ≤ wt ∧ wt ≤ 9))] dX10_adds_58 (Nat.le_of_ble_eq_true rfl) (Nat.le_of_ble_eq_true rfl) rfl rfl ?_
          refine zx_aloadN dX10_adds_60 rfl rfl ?_
          refine zx_aloadN dX10_adds_61 rfl rfl ?_
          refine zx_iload dX10_adds_62 rfl ?_
          refine zx_aloadN dX10_adds_64 rfl rfl ?_
          refine zy_getR (q' := 262) fl_RX10_7 rfl dX10_adds_65 rfl ?_
          refine zx_iconst dX10_adds_68 ?_
          refine zy_iald (v := σ.1 262 3) rfl (by decide) (by decide) dX10_adds_69 (by omega) (by omega) rfl ?_
          refine zx_bipush dX10_adds_70 rfl ?_
          refine zx_icmp_ge (tgt := 79) (by first | exact hz _ _ | assumption | exact zr_b _ | exact zcmp_r _ _ | (unfold zr at *; omega)) (by first | exact hz _ _ | assumption | exact zr_b _ | exact zcmp_r _ _ | (unfold zr at *; omega)) dX10_adds_72 (by decide) (fun h72 => ?_) (fun h72 => ?_)
          · refine zx_iconst dX10_adds_79 ?_
            refine zy_top (b := zb (D 12 0 < 40)) (by first | exact (zb_t (by assumption)).symm | exact (zb_t (by omega)).symm | exact (zb_f (by omega)).symm | exact (zb_f (by assumption)).symm | exact (zb_f (fun q => q (by assumption))).symm) ?_
            refine zy_cv [zi (zb ((1 ≤ pg ∧ pg ≤ 999) ∧ ((if kd = 4 then 1450 else 0) ≤ vl ∧ vl ≤ mx) ∧ 1 ≤ wt ∧ wt ≤ 9)), zi (zb (D 12 0 < 40))] (sX10_passesBoth (A := ((1 ≤ pg ∧ pg ≤ 999) ∧ ((if kd = 4 then 1450 else 0) ≤ vl ∧ vl ≤ mx) ∧ 1 ≤ wt ∧ wt ≤ 9)) (B := (D 12 0 < 40)) hfl hz ) dX10_adds_80 (by decide) rfl cw_RX10_406 okX10_passesBoth rfl (Nat.le_of_ble_eq_true rfl) ⟨Nat.le_of_ble_eq_true rfl, Nat.le_of_ble_eq_true rfl, Nat.le_of_ble_eq_true rfl, Nat.le_of_ble_eq_true rfl⟩ ?_
            refine zy_cvR [zi (zb (((1 ≤ pg ∧ pg ≤ 999) ∧ ((if kd = 4 then 1450 else 0) ≤ vl ∧ vl ≤ mx) ∧ 1 ≤ wt ∧ wt ≤ 9) ∧ (D 12 0 < 40)))] (sX10_tried (A := (((1 ≤ pg ∧ pg ≤ 999) ∧ ((if kd = 4 then 1450 else 0) ≤ vl ∧ vl ≤ mx) ∧ 1 ≤ wt ∧ wt ≤ 9) ∧ (D 12 0 < 40))) hfl (zOK_put hz (th2_r _ _)) (⟨hw, hw2⟩ : (((1 ≤ pg ∧ pg ≤ 999) ∧ ((if kd = 4 then 1450 else 0) ≤ vl ∧ vl ≤ mx) ∧ 1 ≤ wt ∧ wt ≤ 9)) ∧ D 12 0 < 40)) dX10_adds_83 (by decide) rfl cw_RX10_449 okX10_tried rfl (Nat.le_of_ble_eq_true rfl) ⟨Nat.le_of_ble_eq_true rfl, Nat.le_of_ble_eq_true rfl, Nat.le_of_ble_eq_true rfl, Nat.le_of_ble_eq_true rfl⟩ (fun τ83 hr83 => ?_)
            have hz83 : zOK τ83 := hr83.1
            have hRt : Rel D (τ83.1 262) := mfr_R (mfr_cpo hr83.2 (by decide)) (by decide) (Rel_put (by decide) hR)
            have h5t : 0 ≤ τ83.1 261 5 ∧ τ83.1 261 5 ≤ 8 := by rw [hr83.2.1 261 (by decide), zput_i _ _ _ _ _ (by decide)]; exact hm5
            refine zx_if_eq (tgt := 105) (by first | exact hz83 _ _ | assumption | exact zr_b _ | exact zcmp_r _ _ | (unfold zr at *; omega)) dX10_adds_86 (by decide) (fun h86 => ?_) (fun h86 => ?_)
            · have h86 := zb_0.mp h86
              exact absurd (⟨hw, hw2⟩ : (((1 ≤ pg ∧ pg ≤ 999) ∧ ((if kd = 4 then 1450 else 0) ≤ vl ∧ vl ≤ mx) ∧ 1 ≤ wt ∧ wt ≤ 9)) ∧ D 12 0 < 40) (by assumption)
            · have h86 := zb_n.mp h86
              refine zx_aloadN dX10_adds_89 rfl rfl ?_
              refine zx_aloadN dX10_adds_90 rfl rfl ?_
              refine zx_iloadN dX10_adds_91 rfl rfl ?_
              refine zx_iloadN dX10_adds_92 rfl rfl ?_
              refine zx_iloadN dX10_adds_93 rfl rfl ?_
              refine zx_iload dX10_adds_94 rfl ?_
              refine zy_cvR [zi pg, zi kd, zi vl, zi wt] (sX10_clueNow (D := D) hfl hz83 (by first | assumption | omega) hRt (by first | exact hz83 _ _ | assumption | exact zr_b _ | exact zcmp_r _ _ | (unfold zr at *; omega)) (by first | exact hz83 _ _ | assumption | exact zr_b _ | exact zcmp_r _ _ | (unfold zr at *; omega)) (by first | exact hz83 _ _ | assumption | exact zr_b _ | exact zcmp_r _ _ | (unfold zr at *; omega)) (by first | exact hz83 _ _ | assumption | exact zr_b _ | exact zcmp_r _ _ | (unfold zr at *; omega)) (by first | assumption | omega)) dX10_adds_96 (by decide) rfl cw_RX10_372 okX10_clueNow rfl (Nat.le_of_ble_eq_true rfl) ⟨Nat.le_of_ble_eq_true rfl, Nat.le_of_ble_eq_true rfl, Nat.le_of_ble_eq_true rfl, Nat.le_of_ble_eq_true rfl⟩ (fun τ96 hr96 => ?_)
              have hz96 : zOK τ96 := hr96.1
              have h5n : 0 ≤ τ96.1 261 5 ∧ τ96.1 261 5 ≤ 8 := by rw [hr96.2.1.2.1 5 (by omega)]; exact h5t
              refine zy_cvR [zi (zb True)] (sX10_done (A := True) hfl hz96 h5n) dX10_adds_99 (by decide) rfl cw_RX10_452 okX10_done rfl (Nat.le_of_ble_eq_true rfl) ⟨Nat.le_of_ble_eq_true rfl, Nat.le_of_ble_eq_true rfl, Nat.le_of_ble_eq_true rfl, Nat.le_of_ble_eq_true rfl⟩ (fun τ99 hr99 => ?_)
              have hz99 : zOK τ99 := hr99.1
              refine zx_goto (tgt := 106) dX10_adds_102 (by decide) ?_
              refine zx_iret rfl rfl dX10_adds_106 ?_
              rw [hQ]
              refine ⟨congrArg (fun z : Int => (Sum.inl (some (zi z)) : Option zV ⊕ String)) ?_, ?_⟩
              · exact hr96.2.2.2
              have ht : mfr (zput σ 261 6 (th2 ((1 ≤ pg ∧ pg ≤ 999) ∧ ((if kd = 4 then 1450 else 0) ≤ vl ∧ vl ≤ mx) ∧ 1 ≤ wt ∧ wt ≤ 9) (D 12 0 < 40))) τ83 (fun k => k = 264) (fun _ => False) := mfr_cpo hr83.2 (by decide)
              have mB : mfr σ (zput σ 261 6 (th2 ((1 ≤ pg ∧ pg ≤ 999) ∧ ((if kd = 4 then 1450 else 0) ≤ vl ∧ vl ≤ mx) ∧ 1 ≤ wt ∧ wt ≤ 9) (D 12 0 < 40))) (fun _ => False) (fun i => i = 6) := mfr_mo (mfr_put261 (mfr_rf σ (fun _ => False) (fun _ => False))) (fun k q => q) (fun i q => by rcases q with q | q; exact absurd q id; exact q)
              have m1 : mfr σ τ83 mA mF := mfr_tr mB ht (fun k q => by rcases q with q | q; exact absurd q id; exact Or.inr (Or.inl q)) (fun i q => by rcases q with q | q; exact Or.inr (Or.inl q); exact absurd q id)
              have m2 : mfr σ τ96 mA mF := mfr_tr m1 hr96.2.1 (fun k q => by unfold mA at *; omega) (fun i q => by unfold mF at *; omega)
              have m3 : mfr σ τ99 mA mF := mfr_tr m2 hr99.2.1 (fun k q => by unfold mA at *; omega) (fun i q => by unfold mF at *; omega)
              have h264 : ∀ j, j < 380 → τ96.1 264 j = σ.1 262 j := fun j hj => by
                rw [hr96.2.1.1 264 (by omega) (by omega) j]
                have := hr83.2.2.2.1 j hj
                rw [Nat.zero_add] at this
                rw [this]; exact zput_k _ _ _ _ _ (by omega)
              have h266 : ∀ j, τ96.1 266 j = σ.1 266 j := fun j => by
                rw [hr96.2.1.1 266 (by omega) (by omega) j, ht.1 266 (by omega) (by omega) j]; exact zput_k _ _ _ _ _ (by omega)
              have h65 : τ96.1 261 5 = σ.1 261 5 := by
                rw [hr96.2.1.2.1 5 (by omega), ht.2.1 5 (fun q => q)]; exact zput_i _ _ _ _ _ (by omega)
              have h66 : τ99.1 261 6 = 0 := by
                rw [hr99.2.1.2.1 6 (by omega), hr96.2.1.2.1 6 (by omega), ht.2.1 6 (fun q => q)]; exact (zput_s _ _ _ _).trans (th2_0 hw hw2)
              exact ⟨hz99, m3, mfr_R hr99.2.1 (by omega) hr96.2.2.1, MPu_to hr99.2.2 h65 h266 h264, h66⟩
          · refine zx_iconst dX10_adds_75 ?_
            refine zx_goto (tgt := 80) dX10_adds_76 (by decide) ?_
            refine zy_top (b := zb (D 12 0 < 40)) (by first | exact (zb_t (by assumption)).symm | exact (zb_t (by omega)).symm | exact (zb_f (by omega)).symm | exact (zb_f (by assumption)).symm | exact (zb_f (fun q => q (by assumption))).symm) ?_
            refine zy_cv [zi (zb ((1 ≤ pg ∧ pg ≤ 999) ∧ ((if kd = 4 then 1450 else 0) ≤ vl ∧ vl ≤ mx) ∧ 1 ≤ wt ∧ wt ≤ 9)), zi (zb (D 12 0 < 40))] (sX10_passesBoth (A := ((1 ≤ pg ∧ pg ≤ 999) ∧ ((if kd = 4 then 1450 else 0) ≤ vl ∧ vl ≤ mx) ∧ 1 ≤ wt ∧ wt ≤ 9)) (B := (D 12 0 < 40)) hfl hz ) dX10_adds_80 (by decide) rfl cw_RX10_406 okX10_passesBoth rfl (Nat.le_of_ble_eq_true rfl) ⟨Nat.le_of_ble_eq_true rfl, Nat.le_of_ble_eq_true rfl, Nat.le_of_ble_eq_true rfl, Nat.le_of_ble_eq_true rfl⟩ ?_
            refine zy_cvR [zi (zb (((1 ≤ pg ∧ pg ≤ 999) ∧ ((if kd = 4 then 1450 else 0) ≤ vl ∧ vl ≤ mx) ∧ 1 ≤ wt ∧ wt ≤ 9) ∧ (D 12 0 < 40)))] (sX10_tried (A := (((1 ≤ pg ∧ pg ≤ 999) ∧ ((if kd = 4 then 1450 else 0) ≤ vl ∧ vl ≤ mx) ∧ 1 ≤ wt ∧ wt ≤ 9) ∧ (D 12 0 < 40))) hfl (zOK_put hz (th2_r _ _)) (⟨hw, hw2⟩ : (((1 ≤ pg ∧ pg ≤ 999) ∧ ((if kd = 4 then 1450 else 0) ≤ vl ∧ vl ≤ mx) ∧ 1 ≤ wt ∧ wt ≤ 9)) ∧ D 12 0 < 40)) dX10_adds_83 (by decide) rfl cw_RX10_449 okX10_tried rfl (Nat.le_of_ble_eq_true rfl) ⟨Nat.le_of_ble_eq_true rfl, Nat.le_of_ble_eq_true rfl, Nat.le_of_ble_eq_true rfl, Nat.le_of_ble_eq_true rfl⟩ (fun τ83 hr83 => ?_)
            have hz83 : zOK τ83 := hr83.1
            have hRt : Rel D (τ83.1 262) := mfr_R (mfr_cpo hr83.2 (by decide)) (by decide) (Rel_put (by decide) hR)
            have h5t : 0 ≤ τ83.1 261 5 ∧ τ83.1 261 5 ≤ 8 := by rw [hr83.2.1 261 (by decide), zput_i _ _ _ _ _ (by decide)]; exact hm5
            refine zx_if_eq (tgt := 105) (by first | exact hz83 _ _ | assumption | exact zr_b _ | exact zcmp_r _ _ | (unfold zr at *; omega)) dX10_adds_86 (by decide) (fun h86 => ?_) (fun h86 => ?_)
            · have h86 := zb_0.mp h86
              exact absurd (⟨hw, hw2⟩ : (((1 ≤ pg ∧ pg ≤ 999) ∧ ((if kd = 4 then 1450 else 0) ≤ vl ∧ vl ≤ mx) ∧ 1 ≤ wt ∧ wt ≤ 9)) ∧ D 12 0 < 40) (by assumption)
            · have h86 := zb_n.mp h86
              refine zx_aloadN dX10_adds_89 rfl rfl ?_
              refine zx_aloadN dX10_adds_90 rfl rfl ?_
              refine zx_iloadN dX10_adds_91 rfl rfl ?_
              refine zx_iloadN dX10_adds_92 rfl rfl ?_
              refine zx_iloadN dX10_adds_93 rfl rfl ?_
              refine zx_iload dX10_adds_94 rfl ?_
              refine zy_cvR [zi pg, zi kd, zi vl, zi wt] (sX10_clueNow (D := D) hfl hz83 (by first | assumption | omega) hRt (by first | exact hz83 _ _ | assumption | exact zr_b _ | exact zcmp_r _ _ | (unfold zr at *; omega)) (by first | exact hz83 _ _ | assumption | exact zr_b _ | exact zcmp_r _ _ | (unfold zr at *; omega)) (by first | exact hz83 _ _ | assumption | exact zr_b _ | exact zcmp_r _ _ | (unfold zr at *; omega)) (by first | exact hz83 _ _ | assumption | exact zr_b _ | exact zcmp_r _ _ | (unfold zr at *; omega)) (by first | assumption | omega)) dX10_adds_96 (by decide) rfl cw_RX10_372 okX10_clueNow rfl (Nat.le_of_ble_eq_true rfl) ⟨Nat.le_of_ble_eq_true rfl, Nat.le_of_ble_eq_true rfl, Nat.le_of_ble_eq_true rfl, Nat.le_of_ble_eq_true rfl⟩ (fun τ96 hr96 => ?_)
              have hz96 : zOK τ96 := hr96.1
              have h5n : 0 ≤ τ96.1 261 5 ∧ τ96.1 261 5 ≤ 8 := by rw [hr96.2.1.2.1 5 (by omega)]; exact h5t
              refine zy_cvR [zi (zb True)] (sX10_done (A := True) hfl hz96 h5n) dX10_adds_99 (by decide) rfl cw_RX10_452 okX10_done rfl (Nat.le_of_ble_eq_true rfl) ⟨Nat.le_of_ble_eq_true rfl, Nat.le_of_ble_eq_true rfl, Nat.le_of_ble_eq_true rfl, Nat.le_of_ble_eq_true rfl⟩ (fun τ99 hr99 => ?_)
              have hz99 : zOK τ99 := hr99.1
              refine zx_goto (tgt := 106) dX10_adds_102 (by decide) ?_
              refine zx_iret rfl rfl dX10_adds_106 ?_
              rw [hQ]
              refine ⟨congrArg (fun z : Int => (Sum.inl (some (zi z)) : Option zV ⊕ String)) ?_, ?_⟩
              · exact hr96.2.2.2
              have ht : mfr (zput σ 261 6 (th2 ((1 ≤ pg ∧ pg ≤ 999) ∧ ((if kd = 4 then 1450 else 0) ≤ vl ∧ vl ≤ mx) ∧ 1 ≤ wt ∧ wt ≤ 9) (D 12 0 < 40))) τ83 (fun k => k = 264) (fun _ => False) := mfr_cpo hr83.2 (by decide)
              have mB : mfr σ (zput σ 261 6 (th2 ((1 ≤ pg ∧ pg ≤ 999) ∧ ((if kd = 4 then 1450 else 0) ≤ vl ∧ vl ≤ mx) ∧ 1 ≤ wt ∧ wt ≤ 9) (D 12 0 < 40))) (fun _ => False) (fun i => i = 6) := mfr_mo (mfr_put261 (mfr_rf σ (fun _ => False) (fun _ => False))) (fun k q => q) (fun i q => by rcases q with q | q; exact absurd q id; exact q)
              have m1 : mfr σ τ83 mA mF := mfr_tr mB ht (fun k q => by rcases q with q | q; exact absurd q id; exact Or.inr (Or.inl q)) (fun i q => by rcases q with q | q; exact Or.inr (Or.inl q); exact absurd q id)
              have m2 : mfr σ τ96 mA mF := mfr_tr m1 hr96.2.1 (fun k q => by unfold mA at *; omega) (fun i q => by unfold mF at *; omega)
              have m3 : mfr σ τ99 mA mF := mfr_tr m2 hr99.2.1 (fun k q => by unfold mA at *; omega) (fun i q => by unfold mF at *; omega)
              have h264 : ∀ j, j < 380 → τ96.1 264 j = σ.1 262 j := fun j hj => by
                rw [hr96.2.1.1 264 (by omega) (by omega) j]
                have := hr83.2.2.2.1 j hj
                rw [Nat.zero_add] at this
                rw [this]; exact zput_k _ _ _ _ _ (by omega)
              have h266 : ∀ j, τ96.1 266 j = σ.1 266 j := fun j => by
                rw [hr96.2.1.1 266 (by omega) (by omega) j, ht.1 266 (by omega) (by omega) j]; exact zput_k _ _ _ _ _ (by omega)
              have h65 : τ96.1 261 5 = σ.1 261 5 := by
                rw [hr96.2.1.2.1 5 (by omega), ht.2.1 5 (fun q => q)]; exact zput_i _ _ _ _ _ (by omega)
              have h66 : τ99.1 261 6 = 0 := by
                rw [hr99.2.1.2.1 6 (by omega), hr96.2.1.2.1 6 (by omega), ht.2.1 6 (fun q => q)]; exact (zput_s _ _ _ _).trans (th2_0 hw hw2)
              exact ⟨hz99, m3, mfr_R hr99.2.1 (by omega) hr96.2.2.1, MPu_to hr99.2.2 h65 h266 h264, h66⟩
        · have h50 := zb_n.mp h50
          refine zx_iconst dX10_adds_53 ?_
          refine zx_goto (tgt := 58) dX10_adds_54 (by decide) ?_
          refine zy_top (b := zb ((1 ≤ pg ∧ pg ≤ 999) ∧ ((if kd = 4 then 1450 else 0) ≤ vl ∧ vl ≤ mx) ∧ 1 ≤ wt ∧ wt ≤ 9)) (by first | exact (zb_t ⟨by assumption, by assumption, by assumption⟩).symm | exact (zb_f (fun q => absurd q.1 (by assumption))).symm | exact (zb_f (fun q => absurd q.2.1 (by assumption))).symm | exact (zb_f (fun q => absurd q.2.2 (by assumption))).symm) ?_
          refine zy_istore [zf 10 261, zi pg, zi kd, zi vl, zi wt, zi mx, zi (if kd = 4 then 1450 else 0), zi (zb ((1 ≤ pg ∧ pg ≤ 999) ∧ ((if kd = 4 then 1450 else 0) ≤ vl ∧ vl ≤ mx) ∧ 1 ≤ wt ∧ wt ≤ 9))] dX10_adds_58 (Nat.le_of_ble_eq_true rfl) (Nat.le_of_ble_eq_true rfl) rfl rfl ?_
          refine zx_aloadN dX10_adds_60 rfl rfl ?_
          refine zx_aloadN dX10_adds_61 rfl rfl ?_
          refine zx_iload dX10_adds_62 rfl ?_
          refine zx_aloadN dX10_adds_64 rfl rfl ?_
          refine zy_getR (q' := 262) fl_RX10_7 rfl dX10_adds_65 rfl ?_
          refine zx_iconst dX10_adds_68 ?_
          refine zy_iald (v := σ.1 262 3) rfl (by decide) (by decide) dX10_adds_69 (by omega) (by omega) rfl ?_
          refine zx_bipush dX10_adds_70 rfl ?_
          refine zx_icmp_ge (tgt := 79) (by first | exact hz _ _ | assumption | exact zr_b _ | exact zcmp_r _ _ | (unfold zr at *; omega)) (by first | exact hz _ _ | assumption | exact zr_b _ | exact zcmp_r _ _ | (unfold zr at *; omega)) dX10_adds_72 (by decide) (fun h72 => ?_) (fun h72 => ?_)
          · refine zx_iconst dX10_adds_79 ?_
            refine zy_top (b := zb (D 12 0 < 40)) (by first | exact (zb_t (by assumption)).symm | exact (zb_t (by omega)).symm | exact (zb_f (by omega)).symm | exact (zb_f (by assumption)).symm | exact (zb_f (fun q => q (by assumption))).symm) ?_
            refine zy_cv [zi (zb ((1 ≤ pg ∧ pg ≤ 999) ∧ ((if kd = 4 then 1450 else 0) ≤ vl ∧ vl ≤ mx) ∧ 1 ≤ wt ∧ wt ≤ 9)), zi (zb (D 12 0 < 40))] (sX10_passesBoth (A := ((1 ≤ pg ∧ pg ≤ 999) ∧ ((if kd = 4 then 1450 else 0) ≤ vl ∧ vl ≤ mx) ∧ 1 ≤ wt ∧ wt ≤ 9)) (B := (D 12 0 < 40)) hfl hz ) dX10_adds_80 (by decide) rfl cw_RX10_406 okX10_passesBoth rfl (Nat.le_of_ble_eq_true rfl) ⟨Nat.le_of_ble_eq_true rfl, Nat.le_of_ble_eq_true rfl, Nat.le_of_ble_eq_true rfl, Nat.le_of_ble_eq_true rfl⟩ ?_
            refine zy_cvR [zi (zb (((1 ≤ pg ∧ pg ≤ 999) ∧ ((if kd = 4 then 1450 else 0) ≤ vl ∧ vl ≤ mx) ∧ 1 ≤ wt ∧ wt ≤ 9) ∧ (D 12 0 < 40)))] (sX10_tried (A := (((1 ≤ pg ∧ pg ≤ 999) ∧ ((if kd = 4 then 1450 else 0) ≤ vl ∧ vl ≤ mx) ∧ 1 ≤ wt ∧ wt ≤ 9) ∧ (D 12 0 < 40))) hfl (zOK_put hz (th2_r _ _)) (⟨hw, hw2⟩ : (((1 ≤ pg ∧ pg ≤ 999) ∧ ((if kd = 4 then 1450 else 0) ≤ vl ∧ vl ≤ mx) ∧ 1 ≤ wt ∧ wt ≤ 9)) ∧ D 12 0 < 40)) dX10_adds_83 (by decide) rfl cw_RX10_449 okX10_tried rfl (Nat.le_of_ble_eq_true rfl) ⟨Nat.le_of_ble_eq_true rfl, Nat.le_of_ble_eq_true rfl, Nat.le_of_ble_eq_true rfl, Nat.le_of_ble_eq_true rfl⟩ (fun τ83 hr83 => ?_)
            have hz83 : zOK τ83 := hr83.1
            have hRt : Rel D (τ83.1 262) := mfr_R (mfr_cpo hr83.2 (by decide)) (by decide) (Rel_put (by decide) hR)
            have h5t : 0 ≤ τ83.1 261 5 ∧ τ83.1 261 5 ≤ 8 := by rw [hr83.2.1 261 (by decide), zput_i _ _ _ _ _ (by decide)]; exact hm5
            refine zx_if_eq (tgt := 105) (by first | exact hz83 _ _ | assumption | exact zr_b _ | exact zcmp_r _ _ | (unfold zr at *; omega)) dX10_adds_86 (by decide) (fun h86 => ?_) (fun h86 => ?_)
            · have h86 := zb_0.mp h86
              exact absurd (⟨hw, hw2⟩ : (((1 ≤ pg ∧ pg ≤ 999) ∧ ((if kd = 4 then 1450 else 0) ≤ vl ∧ vl ≤ mx) ∧ 1 ≤ wt ∧ wt ≤ 9)) ∧ D 12 0 < 40) (by assumption)
            · have h86 := zb_n.mp h86
              refine zx_aloadN dX10_adds_89 rfl rfl ?_
              refine zx_aloadN dX10_adds_90 rfl rfl ?_
              refine zx_iloadN dX10_adds_91 rfl rfl ?_
              refine zx_iloadN dX10_adds_92 rfl rfl ?_
              refine zx_iloadN dX10_adds_93 rfl rfl ?_
              refine zx_iload dX10_adds_94 rfl ?_
              refine zy_cvR [zi pg, zi kd, zi vl, zi wt] (sX10_clueNow (D := D) hfl hz83 (by first | assumption | omega) hRt (by first | exact hz83 _ _ | assumption | exact zr_b _ | exact zcmp_r _ _ | (unfold zr at *; omega)) (by first | exact hz83 _ _ | assumption | exact zr_b _ | exact zcmp_r _ _ | (unfold zr at *; omega)) (by first | exact hz83 _ _ | assumption | exact zr_b _ | exact zcmp_r _ _ | (unfold zr at *; omega)) (by first | exact hz83 _ _ | assumption | exact zr_b _ | exact zcmp_r _ _ | (unfold zr at *; omega)) (by first | assumption | omega)) dX10_adds_96 (by decide) rfl cw_RX10_372 okX10_clueNow rfl (Nat.le_of_ble_eq_true rfl) ⟨Nat.le_of_ble_eq_true rfl, Nat.le_of_ble_eq_true rfl, Nat.le_of_ble_eq_true rfl, Nat.le_of_ble_eq_true rfl⟩ (fun τ96 hr96 => ?_)
              have hz96 : zOK τ96 := hr96.1
              have h5n : 0 ≤ τ96.1 261 5 ∧ τ96.1 261 5 ≤ 8 := by rw [hr96.2.1.2.1 5 (by omega)]; exact h5t
              refine zy_cvR [zi (zb True)] (sX10_done (A := True) hfl hz96 h5n) dX10_adds_99 (by decide) rfl cw_RX10_452 okX10_done rfl (Nat.le_of_ble_eq_true rfl) ⟨Nat.le_of_ble_eq_true rfl, Nat.le_of_ble_eq_true rfl, Nat.le_of_ble_eq_true rfl, Nat.le_of_ble_eq_true rfl⟩ (fun τ99 hr99 => ?_)
              have hz99 : zOK τ99 := hr99.1
              refine zx_goto (tgt := 106) dX10_adds_102 (by decide) ?_
              refine zx_iret rfl rfl dX10_adds_106 ?_
              rw [hQ]
              refine ⟨congrArg (fun z : Int => (Sum.inl (some (zi z)) : Option zV ⊕ String)) ?_, ?_⟩
              · exact hr96.2.2.2
              have ht : mfr (zput σ 261 6 (th2 ((1 ≤ pg ∧ pg ≤ 999) ∧ ((if kd = 4 then 1450 else 0) ≤ vl ∧ vl ≤ mx) ∧ 1 ≤ wt ∧ wt ≤ 9) (D 12 0 < 40))) τ83 (fun k => k = 264) (fun _ => False) := mfr_cpo hr83.2 (by decide)
              have mB : mfr σ (zput σ 261 6 (th2 ((1 ≤ pg ∧ pg ≤ 999) ∧ ((if kd = 4 then 1450 else 0) ≤ vl ∧ vl ≤ mx) ∧ 1 ≤ wt ∧ wt ≤ 9) (D 12 0 < 40))) (fun _ => False) (fun i => i = 6) := mfr_mo (mfr_put261 (mfr_rf σ (fun _ => False) (fun _ => False))) (fun k q => q) (fun i q => by rcases q with q | q; exact absurd q id; exact q)
              have m1 : mfr σ τ83 mA mF := mfr_tr mB ht (fun k q => by rcases q with q | q; exact absurd q id; exact Or.inr (Or.inl q)) (fun i q => by rcases q with q | q; exact Or.inr (Or.inl q); exact absurd q id)
              have m2 : mfr σ τ96 mA mF := mfr_tr m1 hr96.2.1 (fun k q => by unfold mA at *; omega) (fun i q => by unfold mF at *; omega)
              have m3 : mfr σ τ99 mA mF := mfr_tr m2 hr99.2.1 (fun k q => by unfold mA at *; omega) (fun i q => by unfold mF at *; omega)
              have h264 : ∀ j, j < 380 → τ96.1 264 j = σ.1 262 j := fun j hj => by
                rw [hr96.2.1.1 264 (by omega) (by omega) j]
                have := hr83.2.2.2.1 j hj
                rw [Nat.zero_add] at this
                rw [this]; exact zput_k _ _ _ _ _ (by omega)
              have h266 : ∀ j, τ96.1 266 j = σ.1 266 j := fun j => by
                rw [hr96.2.1.1 266 (by omega) (by omega) j, ht.1 266 (by omega) (by omega) j]; exact zput_k _ _ _ _ _ (by omega)
              have h65 : τ96.1 261 5 = σ.1 261 5 := by
                rw [hr96.2.1.2.1 5 (by omega), ht.2.1 5 (fun q => q)]; exact zput_i _ _ _ _ _ (by omega)
              have h66 : τ99.1 261 6 = 0 := by
                rw [hr99.2.1.2.1 6 (by omega), hr96.2.1.2.1 6 (by omega), ht.2.1 6 (fun q => q)]; exact (zput_s _ _ _ _).trans (th2_0 hw hw2)
              exact ⟨hz99, m3, mfr_R hr99.2.1 (by omega) hr96.2.2.1, MPu_to hr99.2.2 h65 h266 h264, h66⟩
          · refine zx_iconst dX10_adds_75 ?_
            refine zx_goto (tgt := 80) dX10_adds_76 (by decide) ?_
            refine zy_top (b := zb (D 12 0 < 40)) (by first | exact (zb_t (by assumption)).symm | exact (zb_t (by omega)).symm | exact (zb_f (by omega)).symm | exact (zb_f (by assumption)).symm | exact (zb_f (fun q => q (by assumption))).symm) ?_
            refine zy_cv [zi (zb ((1 ≤ pg ∧ pg ≤ 999) ∧ ((if kd = 4 then 1450 else 0) ≤ vl ∧ vl ≤ mx) ∧ 1 ≤ wt ∧ wt ≤ 9)), zi (zb (D 12 0 < 40))] (sX10_passesBoth (A := ((1 ≤ pg ∧ pg ≤ 999) ∧ ((if kd = 4 then 1450 else 0) ≤ vl ∧ vl ≤ mx) ∧ 1 ≤ wt ∧ wt ≤ 9)) (B := (D 12 0 < 40)) hfl hz ) dX10_adds_80 (by decide) rfl cw_RX10_406 okX10_passesBoth rfl (Nat.le_of_ble_eq_true rfl) ⟨Nat.le_of_ble_eq_true rfl, Nat.le_of_ble_eq_true rfl, Nat.le_of_ble_eq_true rfl, Nat.le_of_ble_eq_true rfl⟩ ?_
            refine zy_cvR [zi (zb (((1 ≤ pg ∧ pg ≤ 999) ∧ ((if kd = 4 then 1450 else 0) ≤ vl ∧ vl ≤ mx) ∧ 1 ≤ wt ∧ wt ≤ 9) ∧ (D 12 0 < 40)))] (sX10_tried (A := (((1 ≤ pg ∧ pg ≤ 999) ∧ ((if kd = 4 then 1450 else 0) ≤ vl ∧ vl ≤ mx) ∧ 1 ≤ wt ∧ wt ≤ 9) ∧ (D 12 0 < 40))) hfl (zOK_put hz (th2_r _ _)) (⟨hw, hw2⟩ : (((1 ≤ pg ∧ pg ≤ 999) ∧ ((if kd = 4 then 1450 else 0) ≤ vl ∧ vl ≤ mx) ∧ 1 ≤ wt ∧ wt ≤ 9)) ∧ D 12 0 < 40)) dX10_adds_83 (by decide) rfl cw_RX10_449 okX10_tried rfl (Nat.le_of_ble_eq_true rfl) ⟨Nat.le_of_ble_eq_true rfl, Nat.le_of_ble_eq_true rfl, Nat.le_of_ble_eq_true rfl, Nat.le_of_ble_eq_true rfl⟩ (fun τ83 hr83 => ?_)
            have hz83 : zOK τ83 := hr83.1
            have hRt : Rel D (τ83.1 262) := mfr_R (mfr_cpo hr83.2 (by decide)) (by decide) (Rel_put (by decide) hR)
            have h5t : 0 ≤ τ83.1 261 5 ∧ τ83.1 261 5 ≤ 8 := by rw [hr83.2.1 261 (by decide), zput_i _ _ _ _ _ (by decide)]; exact hm5
            refine zx_if_eq (tgt := 105) (by first | exact hz83 _ _ | assumption | exact zr_b _ | exact zcmp_r _ _ | (unfold zr at *; omega)) dX10_adds_86 (by decide) (fun h86 => ?_) (fun h86 => ?_)
            · have h86 := zb_0.mp h86
              exact absurd (⟨hw, hw2⟩ : (((1 ≤ pg ∧ pg ≤ 999) ∧ ((if kd = 4 then 1450 else 0) ≤ vl ∧ vl ≤ mx) ∧ 1 ≤ wt ∧ wt ≤ 9)) ∧ D 12 0 < 40) (by assumption)
            · have h86 := zb_n.mp h86
              refine zx_aloadN dX10_adds_89 rfl rfl ?_
              refine zx_aloadN dX10_adds_90 rfl rfl ?_
              refine zx_iloadN dX10_adds_91 rfl rfl ?_
              refine zx_iloadN dX10_adds_92 rfl rfl ?_
              refine zx_iloadN dX10_adds_93 rfl rfl ?_
              refine zx_iload dX10_adds_94 rfl ?_
              refine zy_cvR [zi pg, zi kd, zi vl, zi wt] (sX10_clueNow (D := D) hfl hz83 (by first | assumption | omega) hRt (by first | exact hz83 _ _ | assumption | exact zr_b _ | exact zcmp_r _ _ | (unfold zr at *; omega)) (by first | exact hz83 _ _ | assumption | exact zr_b _ | exact zcmp_r _ _ | (unfold zr at *; omega)) (by first | exact hz83 _ _ | assumption | exact zr_b _ | exact zcmp_r _ _ | (unfold zr at *; omega)) (by first | exact hz83 _ _ | assumption | exact zr_b _ | exact zcmp_r _ _ | (unfold zr at *; omega)) (by first | assumption | omega)) dX10_adds_96 (by decide) rfl cw_RX10_372 okX10_clueNow rfl (Nat.le_of_ble_eq_true rfl) ⟨Nat.le_of_ble_eq_true rfl, Nat.le_of_ble_eq_true rfl, Nat.le_of_ble_eq_true rfl, Nat.le_of_ble_eq_true rfl⟩ (fun τ96 hr96 => ?_)
              have hz96 : zOK τ96 := hr96.1
              have h5n : 0 ≤ τ96.1 261 5 ∧ τ96.1 261 5 ≤ 8 := by rw [hr96.2.1.2.1 5 (by omega)]; exact h5t
              refine zy_cvR [zi (zb True)] (sX10_done (A := True) hfl hz96 h5n) dX10_adds_99 (by decide) rfl cw_RX10_452 okX10_done rfl (Nat.le_of_ble_eq_true rfl) ⟨Nat.le_of_ble_eq_true rfl, Nat.le_of_ble_eq_true rfl, Nat.le_of_ble_eq_true rfl, Nat.le_of_ble_eq_true rfl⟩ (fun τ99 hr99 => ?_)
              have hz99 : zOK τ99 := hr99.1
              refine zx_goto (tgt := 106) dX10_adds_102 (by decide) ?_
              refine zx_iret rfl rfl dX10_adds_106 ?_
              rw [hQ]
              refine ⟨congrArg (fun z : Int => (Sum.inl (some (zi z)) : Option zV ⊕ String)) ?_, ?_⟩
              · exact hr96.2.2.2
              have ht : mfr (zput σ 261 6 (th2 ((1 ≤ pg ∧ pg ≤ 999) ∧ ((if kd = 4 then 1450 else 0) ≤ vl ∧ vl ≤ mx) ∧ 1 ≤ wt ∧ wt ≤ 9) (D 12 0 < 40))) τ83 (fun k => k = 264) (fun _ => False) := mfr_cpo hr83.2 (by decide)
              have mB : mfr σ (zput σ 261 6 (th2 ((1 ≤ pg ∧ pg ≤ 999) ∧ ((if kd = 4 then 1450 else 0) ≤ vl ∧ vl ≤ mx) ∧ 1 ≤ wt ∧ wt ≤ 9) (D 12 0 < 40))) (fun _ => False) (fun i => i = 6) := mfr_mo (mfr_put261 (mfr_rf σ (fun _ => False) (fun _ => False))) (fun k q => q) (fun i q => by rcases q with q | q; exact absurd q id; exact q)
              have m1 : mfr σ τ83 mA mF := mfr_tr mB ht (fun k q => by rcases q with q | q; exact absurd q id; exact Or.inr (Or.inl q)) (fun i q => by rcases q with q | q; exact Or.inr (Or.inl q); exact absurd q id)
              have m2 : mfr σ τ96 mA mF := mfr_tr m1 hr96.2.1 (fun k q => by unfold mA at *; omega) (fun i q => by unfold mF at *; omega)
              have m3 : mfr σ τ99 mA mF := mfr_tr m2 hr99.2.1 (fun k q => by unfold mA at *; omega) (fun i q => by unfold mF at *; omega)
              have h264 : ∀ j, j < 380 → τ96.1 264 j = σ.1 262 j := fun j hj => by
                rw [hr96.2.1.1 264 (by omega) (by omega) j]
                have := hr83.2.2.2.1 j hj
                rw [Nat.zero_add] at this
                rw [this]; exact zput_k _ _ _ _ _ (by omega)
              have h266 : ∀ j, τ96.1 266 j = σ.1 266 j := fun j => by
                rw [hr96.2.1.1 266 (by omega) (by omega) j, ht.1 266 (by omega) (by omega) j]; exact zput_k _ _ _ _ _ (by omega)
              have h65 : τ96.1 261 5 = σ.1 261 5 := by
                rw [hr96.2.1.2.1 5 (by omega), ht.2.1 5 (fun q => q)]; exact zput_i _ _ _ _ _ (by omega)
              have h66 : τ99.1 261 6 = 0 := by
                rw [hr99.2.1.2.1 6 (by omega), hr96.2.1.2.1 6 (by omega), ht.2.1 6 (fun q => q)]; exact (zput_s _ _ _ _).trans (th2_0 hw hw2)
              exact ⟨hz99, m3, mfr_R hr99.2.1 (by omega) hr96.2.2.1, MPu_to hr99.2.2 h65 h266 h264, h66⟩
set_option maxRecDepth 20000 in
set_option maxHeartbeats 2000000 in
theorem sX10_addDeviceClue_t1 {l : Launch} {w : zW} (hfl : l.stackTraces = false) {σ : zS} {D : zBk} {pg vl wt : Int} (hz : zOK σ) (hW : WF D) (hR : Rel D (σ.1 262)) (h1 : zr pg) (h3 : zr vl) (h4 : zr wt) (hw : ¬ ((1 ≤ pg ∧ pg ≤ 999) ∧ (0 ≤ vl ∧ vl ≤ 31) ∧ 1 ≤ wt ∧ wt ≤ 9)) : Sp l w mX10_addDeviceClue 4 0 [zf 10 261, zi pg, zi vl, zi wt] σ (zqv (some (zi 0)) (fun τ => zOK τ ∧ QP D σ τ ∧ τ.1 261 6 = 1)) := by
  obtain ⟨Q, hQ⟩ : ∃ Q : zQ, Q = (zqv (some (zi 0)) (fun τ => zOK τ ∧ QP D σ τ ∧ τ.1 261 6 = 1)) := ⟨_, rfl⟩
  rw [← hQ]
  refine zx_enter hfl (by decide) rfl 0 rfl ?_
  show zX l w mX10_addDeviceClue (zMQ w 4 0 Q) 0 [zf 10 261, zi pg, zi vl, zi wt] [] 0 σ
  have hP : 0 ≤ D 1 0 ∧ D 1 0 ≤ 8 := hW.1.1
  have hM : 0 ≤ D 1 7 ∧ D 1 7 ≤ 8 := hW.1.2.1
  have hE : 0 ≤ D 1 10 ∧ D 1 10 ≤ 12 := hW.1.2.2.1
  have hK : 0 ≤ D 12 0 ∧ D 12 0 ≤ 40 := hW.1.2.2.2
  have r0 : σ.1 262 0 = D 1 0 := hR.1.1
  have r1 : σ.1 262 1 = D 1 7 := hR.1.2.1
  have r2 : σ.1 262 2 = D 1 10 := hR.1.2.2.1
  have r3 : σ.1 262 3 = D 12 0 := hR.1.2.2.2
  have hwE : ((1 ≤ pg ∧ pg ≤ 999) ∧ ((if 0 = 4 then 1450 else 0) ≤ vl ∧ vl ≤ 31) ∧ 1 ≤ wt ∧ wt ≤ 9) ↔ ((1 ≤ pg ∧ pg ≤ 999) ∧ (0 ≤ vl ∧ vl ≤ 31) ∧ 1 ≤ wt ∧ wt ≤ 9) := by
    constructor
    · rintro ⟨a, b, c⟩; simp at b; exact ⟨a, by omega, c⟩
    · rintro ⟨a, b, c⟩; refine ⟨a, ?_, c⟩; simp; omega
  refine zx_aloadN dX10_addDeviceClue_0 rfl rfl ?_
  refine zx_iloadN dX10_addDeviceClue_1 rfl rfl ?_
  refine zx_iconst dX10_addDeviceClue_2 ?_
  refine zx_iloadN dX10_addDeviceClue_3 rfl rfl ?_
  refine zx_iloadN dX10_addDeviceClue_4 rfl rfl ?_
  refine zx_bipush dX10_addDeviceClue_5 rfl ?_
  refine zy_cvR [zi pg, zi 0, zi vl, zi wt, zi 31] (sX10_adds_t1 (D := D) hfl hz (by first | assumption | omega) (by first | assumption | (refine Rel_put (by decide) ?_; assumption) | (refine Rel_put (by decide) (Rel_put (by decide) ?_); assumption) | (refine Rel_put (by decide) (Rel_put (by decide) (Rel_put (by decide) ?_)); assumption)) (by first | exact hz _ _ | assumption | exact zr_b _ | exact zcmp_r _ _ | (unfold zr at *; omega)) (by unfold zr; omega) (by first | exact hz _ _ | assumption | exact zr_b _ | exact zcmp_r _ _ | (unfold zr at *; omega)) (by first | exact hz _ _ | assumption | exact zr_b _ | exact zcmp_r _ _ | (unfold zr at *; omega)) (by unfold zr; omega) (fun q => hw (hwE.mp q))) dX10_addDeviceClue_7 (by decide) rfl cw_RX10_455 okX10_adds rfl (Nat.le_of_ble_eq_true rfl) ⟨Nat.le_of_ble_eq_true rfl, Nat.le_of_ble_eq_true rfl, Nat.le_of_ble_eq_true rfl, Nat.le_of_ble_eq_true rfl⟩ (fun τ7 hr7 => ?_)
  have hz7 : zOK τ7 := hr7.1
  refine zx_iret rfl rfl dX10_addDeviceClue_10 ?_
  rw [hQ]
  refine ⟨congrArg (fun z : Int => (Sum.inl (some (zi z)) : Option zV ⊕ String)) ?_, ?_⟩
  · rfl
  exact hr7
set_option maxRecDepth 20000 in
set_option maxHeartbeats 2000000 in
theorem sX10_addDeviceClue_t2 {l : Launch} {w : zW} (hfl : l.stackTraces = false) {σ : zS} {D : zBk} {pg vl wt : Int} (hz : zOK σ) (hW : WF D) (hR : Rel D (σ.1 262)) (h1 : zr pg) (h3 : zr vl) (h4 : zr wt) (hw : (1 ≤ pg ∧ pg ≤ 999) ∧ (0 ≤ vl ∧ vl ≤ 31) ∧ 1 ≤ wt ∧ wt ≤ 9) (hw2 : ¬ (D 12 0 < 40)) : Sp l w mX10_addDeviceClue 4 0 [zf 10 261, zi pg, zi vl, zi wt] σ (zqv (some (zi 0)) (fun τ => zOK τ ∧ QP D σ τ ∧ τ.1 261 6 = 2)) := by
  obtain ⟨Q, hQ⟩ : ∃ Q : zQ, Q = (zqv (some (zi 0)) (fun τ => zOK τ ∧ QP D σ τ ∧ τ.1 261 6 = 2)) := ⟨_, rfl⟩
  rw [← hQ]
  refine zx_enter hfl (by decide) rfl 0 rfl ?_
  show zX l w mX10_addDeviceClue (zMQ w 4 0 Q) 0 [zf 10 261, zi pg, zi vl, zi wt] [] 0 σ
  have hP : 0 ≤ D 1 0 ∧ D 1 0 ≤ 8 := hW.1.1
  have hM : 0 ≤ D 1 7 ∧ D 1 7 ≤ 8 := hW.1.2.1
  have hE : 0 ≤ D 1 10 ∧ D 1 10 ≤ 12 := hW.1.2.2.1
  have hK : 0 ≤ D 12 0 ∧ D 12 0 ≤ 40 := hW.1.2.2.2
  have r0 : σ.1 262 0 = D 1 0 := hR.1.1
  have r1 : σ.1 262 1 = D 1 7 := hR.1.2.1
  have r2 : σ.1 262 2 = D 1 10 := hR.1.2.2.1
  have r3 : σ.1 262 3 = D 12 0 := hR.1.2.2.2
  have hwE : ((1 ≤ pg ∧ pg ≤ 999) ∧ ((if 0 = 4 then 1450 else 0) ≤ vl ∧ vl ≤ 31) ∧ 1 ≤ wt ∧ wt ≤ 9) ↔ ((1 ≤ pg ∧ pg ≤ 999) ∧ (0 ≤ vl ∧ vl ≤ 31) ∧ 1 ≤ wt ∧ wt ≤ 9) := by
    constructor
    · rintro ⟨a, b, c⟩; simp at b; exact ⟨a, by omega, c⟩
    · rintro ⟨a, b, c⟩; refine ⟨a, ?_, c⟩; simp; omega
  refine zx_aloadN dX10_addDeviceClue_0 rfl rfl ?_
  refine zx_iloadN dX10_addDeviceClue_1 rfl rfl ?_
  refine zx_iconst dX10_addDeviceClue_2 ?_
  refine zx_iloadN dX10_addDeviceClue_3 rfl rfl ?_
  refine zx_iloadN dX10_addDeviceClue_4 rfl rfl ?_
  refine zx_bipush dX10_addDeviceClue_5 rfl ?_
  refine zy_cvR [zi pg, zi 0, zi vl, zi wt, zi 31] (sX10_adds_t2 (D := D) hfl hz (by first | assumption | omega) (by first | assumption | (refine Rel_put (by decide) ?_; assumption) | (refine Rel_put (by decide) (Rel_put (by decide) ?_); assumption) | (refine Rel_put (by decide) (Rel_put (by decide) (Rel_put (by decide) ?_)); assumption)) (by first | exact hz _ _ | assumption | exact zr_b _ | exact zcmp_r _ _ | (unfold zr at *; omega)) (by unfold zr; omega) (by first | exact hz _ _ | assumption | exact zr_b _ | exact zcmp_r _ _ | (unfold zr at *; omega)) (by first | exact hz _ _ | assumption | exact zr_b _ | exact zcmp_r _ _ | (unfold zr at *; omega)) (by unfold zr; omega) (hwE.mpr hw) (by first | assumption | omega)) dX10_addDeviceClue_7 (by decide) rfl cw_RX10_455 okX10_adds rfl (Nat.le_of_ble_eq_true rfl) ⟨Nat.le_of_ble_eq_true rfl, Nat.le_of_ble_eq_true rfl, Nat.le_of_ble_eq_true rfl, Nat.le_of_ble_eq_true rfl⟩ (fun τ7 hr7 => ?_)
  have hz7 : zOK τ7 := hr7.1
  refine zx_iret rfl rfl dX10_addDeviceClue_10 ?_
  rw [hQ]
  refine ⟨congrArg (fun z : Int => (Sum.inl (some (zi z)) : Option zV ⊕ String)) ?_, ?_⟩
  · rfl
  exact hr7
set_option maxRecDepth 20000 in
set_option maxHeartbeats 2000000 in
theorem sX10_addDeviceClue {l : Launch} {w : zW} (hfl : l.stackTraces = false) {σ : zS} {D : zBk} {pg vl wt : Int} (hz : zOK σ) (hW : WF D) (hR : Rel D (σ.1 262)) (h1 : zr pg) (h3 : zr vl) (h4 : zr wt) (hm5 : 0 ≤ σ.1 261 5 ∧ σ.1 261 5 ≤ 8) (hw : (1 ≤ pg ∧ pg ≤ 999) ∧ (0 ≤ vl ∧ vl ≤ 31) ∧ 1 ≤ wt ∧ wt ≤ 9) (hw2 : D 12 0 < 40) : Sp l w mX10_addDeviceClue 4 0 [zf 10 261, zi pg, zi vl, zi wt] σ (zqv (some (zi (D 12 0))) (fun τ => zOK τ ∧ mfr σ τ mA mF ∧ Rel (adB D pg 0 vl wt) (τ.1 262) ∧ MPu σ τ (σ.1 262) ∧ τ.1 261 6 = 0)) := by
  obtain ⟨Q, hQ⟩ : ∃ Q : zQ, Q = (zqv (some (zi (D 12 0))) (fun τ => zOK τ ∧ mfr σ τ mA mF ∧ Rel (adB D pg 0 vl wt) (τ.1 262) ∧ MPu σ τ (σ.1 262) ∧ τ.1 261 6 = 0)) := ⟨_, rfl⟩
  rw [← hQ]
  refine zx_enter hfl (by decide) rfl 0 rfl ?_
  show zX l w mX10_addDeviceClue (zMQ w 4 0 Q) 0 [zf 10 261, zi pg, zi vl, zi wt] [] 0 σ
  have hP : 0 ≤ D 1 0 ∧ D 1 0 ≤ 8 := hW.1.1
  have hM : 0 ≤ D 1 7 ∧ D 1 7 ≤ 8 := hW.1.2.1
  have hE : 0 ≤ D 1 10 ∧ D 1 10 ≤ 12 := hW.1.2.2.1
  have hK : 0 ≤ D 12 0 ∧ D 12 0 ≤ 40 := hW.1.2.2.2
  have r0 : σ.1 262 0 = D 1 0 := hR.1.1
  have r1 : σ.1 262 1 = D 1 7 := hR.1.2.1
  have r2 : σ.1 262 2 = D 1 10 := hR.1.2.2.1
  have r3 : σ.1 262 3 = D 12 0 := hR.1.2.2.2
  have hwE : ((1 ≤ pg ∧ pg ≤ 999) ∧ ((if 0 = 4 then 1450 else 0) ≤ vl ∧ vl ≤ 31) ∧ 1 ≤ wt ∧ wt ≤ 9) ↔ ((1 ≤ pg ∧ pg ≤ 999) ∧ (0 ≤ vl ∧ vl ≤ 31) ∧ 1 ≤ wt ∧ wt ≤ 9) := by
    constructor
    · rintro ⟨a, b, c⟩; simp at b; exact ⟨a, by omega, c⟩
    · rintro ⟨a, b, c⟩; refine ⟨a, ?_, c⟩; simp; omega
  refine zx_aloadN dX10_addDeviceClue_0 rfl rfl ?_
  refine zx_iloadN dX10_addDeviceClue_1 rfl rfl ?_
  refine zx_iconst dX10_addDeviceClue_2 ?_
  refine zx_iloadN dX10_addDeviceClue_3 rfl rfl ?_
  refine zx_iloadN dX10_addDeviceClue_4 rfl rfl ?_
  refine zx_bipush dX10_addDeviceClue_5 rfl ?_
  refine zy_cvR [zi pg, zi 0, zi vl, zi wt, zi 31] (sX10_adds (D := D) hfl hz (by first | assumption | omega) (by first | assumption | (refine Rel_put (by decide) ?_; assumption) | (refine Rel_put (by decide) (Rel_put (by decide) ?_); assumption) | (refine Rel_put (by decide) (Rel_put (by decide) (Rel_put (by decide) ?_)); assumption)) (by first | exact hz _ _ | assumption | exact zr_b _ | exact zcmp_r _ _ | (unfold zr at *; omega)) (by unfold zr; omega) (by first | exact hz _ _ | assumption | exact zr_b _ | exact zcmp_r _ _ | (unfold zr at *; omega)) (by first | exact hz _ _ | assumption | exact zr_b _ | exact zcmp_r _ _ | (unfold zr at *; omega)) (by unfold zr; omega) (by first | assumption | omega) (hwE.mpr hw) (by first | assumption | omega)) dX10_addDeviceClue_7 (by decide) rfl cw_RX10_455 okX10_adds rfl (Nat.le_of_ble_eq_true rfl) ⟨Nat.le_of_ble_eq_true rfl, Nat.le_of_ble_eq_true rfl, Nat.le_of_ble_eq_true rfl, Nat.le_of_ble_eq_true rfl⟩ (fun τ7 hr7 => ?_)
  have hz7 : zOK τ7 := hr7.1
  refine zx_iret rfl rfl dX10_addDeviceClue_10 ?_
  rw [hQ]
  refine ⟨congrArg (fun z : Int => (Sum.inl (some (zi z)) : Option zV ⊕ String)) ?_, ?_⟩
  · rfl
  exact hr7
set_option maxRecDepth 20000 in
set_option maxHeartbeats 2000000 in
theorem sX10_addTypefaceClue_t1 {l : Launch} {w : zW} (hfl : l.stackTraces = false) {σ : zS} {D : zBk} {pg vl wt : Int} (hz : zOK σ) (hW : WF D) (hR : Rel D (σ.1 262)) (h1 : zr pg) (h3 : zr vl) (h4 : zr wt) (hw : ¬ ((1 ≤ pg ∧ pg ≤ 999) ∧ (0 ≤ vl ∧ vl ≤ 15) ∧ 1 ≤ wt ∧ wt ≤ 9)) : Sp l w mX10_addTypefaceClue 4 0 [zf 10 261, zi pg, zi vl, zi wt] σ (zqv (some (zi 0)) (fun τ => zOK τ ∧ QP D σ τ ∧ τ.1 261 6 = 1)) := by
  obtain ⟨Q, hQ⟩ : ∃ Q : zQ, Q = (zqv (some (zi 0)) (fun τ => zOK τ ∧ QP D σ τ ∧ τ.1 261 6 = 1)) := ⟨_, rfl⟩
  rw [← hQ]
  refine zx_enter hfl (by decide) rfl 0 rfl ?_
  show zX l w mX10_addTypefaceClue (zMQ w 4 0 Q) 0 [zf 10 261, zi pg, zi vl, zi wt] [] 0 σ
  have hP : 0 ≤ D 1 0 ∧ D 1 0 ≤ 8 := hW.1.1
  have hM : 0 ≤ D 1 7 ∧ D 1 7 ≤ 8 := hW.1.2.1
  have hE : 0 ≤ D 1 10 ∧ D 1 10 ≤ 12 := hW.1.2.2.1
  have hK : 0 ≤ D 12 0 ∧ D 12 0 ≤ 40 := hW.1.2.2.2
  have r0 : σ.1 262 0 = D 1 0 := hR.1.1
  have r1 : σ.1 262 1 = D 1 7 := hR.1.2.1
  have r2 : σ.1 262 2 = D 1 10 := hR.1.2.2.1
  have r3 : σ.1 262 3 = D 12 0 := hR.1.2.2.2
  have hwE : ((1 ≤ pg ∧ pg ≤ 999) ∧ ((if 1 = 4 then 1450 else 0) ≤ vl ∧ vl ≤ 15) ∧ 1 ≤ wt ∧ wt ≤ 9) ↔ ((1 ≤ pg ∧ pg ≤ 999) ∧ (0 ≤ vl ∧ vl ≤ 15) ∧ 1 ≤ wt ∧ wt ≤ 9) := by
    constructor
    · rintro ⟨a, b, c⟩; simp at b; exact ⟨a, by omega, c⟩
    · rintro ⟨a, b, c⟩; refine ⟨a, ?_, c⟩; simp; omega
  refine zx_aloadN dX10_addTypefaceClue_0 rfl rfl ?_
  refine zx_iloadN dX10_addTypefaceClue_1 rfl rfl ?_
  refine zx_iconst dX10_addTypefaceClue_2 ?_
  refine zx_iloadN dX10_addTypefaceClue_3 rfl rfl ?_
  refine zx_iloadN dX10_addTypefaceClue_4 rfl rfl ?_
  refine zx_bipush dX10_addTypefaceClue_5 rfl ?_
  refine zy_cvR [zi pg, zi 1, zi vl, zi wt, zi 15] (sX10_adds_t1 (D := D) hfl hz (by first | assumption | omega) (by first | assumption | (refine Rel_put (by decide) ?_; assumption) | (refine Rel_put (by decide) (Rel_put (by decide) ?_); assumption) | (refine Rel_put (by decide) (Rel_put (by decide) (Rel_put (by decide) ?_)); assumption)) (by first | exact hz _ _ | assumption | exact zr_b _ | exact zcmp_r _ _ | (unfold zr at *; omega)) (by unfold zr; omega) (by first | exact hz _ _ | assumption | exact zr_b _ | exact zcmp_r _ _ | (unfold zr at *; omega)) (by first | exact hz _ _ | assumption | exact zr_b _ | exact zcmp_r _ _ | (unfold zr at *; omega)) (by unfold zr; omega) (fun q => hw (hwE.mp q))) dX10_addTypefaceClue_7 (by decide) rfl cw_RX10_455 okX10_adds rfl (Nat.le_of_ble_eq_true rfl) ⟨Nat.le_of_ble_eq_true rfl, Nat.le_of_ble_eq_true rfl, Nat.le_of_ble_eq_true rfl, Nat.le_of_ble_eq_true rfl⟩ (fun τ7 hr7 => ?_)
  have hz7 : zOK τ7 := hr7.1
  refine zx_iret rfl rfl dX10_addTypefaceClue_10 ?_
  rw [hQ]
  refine ⟨congrArg (fun z : Int => (Sum.inl (some (zi z)) : Option zV ⊕ String)) ?_, ?_⟩
  · rfl
  exact hr7
set_option maxRecDepth 20000 in
set_option maxHeartbeats 2000000 in
theorem sX10_addTypefaceClue_t2 {l : Launch} {w : zW} (hfl : l.stackTraces = false) {σ : zS} {D : zBk} {pg vl wt : Int} (hz : zOK σ) (hW : WF D) (hR : Rel D (σ.1 262)) (h1 : zr pg) (h3 : zr vl) (h4 : zr wt) (hw : (1 ≤ pg ∧ pg ≤ 999) ∧ (0 ≤ vl ∧ vl ≤ 15) ∧ 1 ≤ wt ∧ wt ≤ 9) (hw2 : ¬ (D 12 0 < 40)) : Sp l w mX10_addTypefaceClue 4 0 [zf 10 261, zi pg, zi vl, zi wt] σ (zqv (some (zi 0)) (fun τ => zOK τ ∧ QP D σ τ ∧ τ.1 261 6 = 2)) := by
  obtain ⟨Q, hQ⟩ : ∃ Q : zQ, Q = (zqv (some (zi 0)) (fun τ => zOK τ ∧ QP D σ τ ∧ τ.1 261 6 = 2)) := ⟨_, rfl⟩
  rw [← hQ]
  refine zx_enter hfl (by decide) rfl 0 rfl ?_
  show zX l w mX10_addTypefaceClue (zMQ w 4 0 Q) 0 [zf 10 261, zi pg, zi vl, zi wt] [] 0 σ
  have hP : 0 ≤ D 1 0 ∧ D 1 0 ≤ 8 := hW.1.1
  have hM : 0 ≤ D 1 7 ∧ D 1 7 ≤ 8 := hW.1.2.1
  have hE : 0 ≤ D 1 10 ∧ D 1 10 ≤ 12 := hW.1.2.2.1
  have hK : 0 ≤ D 12 0 ∧ D 12 0 ≤ 40 := hW.1.2.2.2
  have r0 : σ.1 262 0 = D 1 0 := hR.1.1
  have r1 : σ.1 262 1 = D 1 7 := hR.1.2.1
  have r2 : σ.1 262 2 = D 1 10 := hR.1.2.2.1
  have r3 : σ.1 262 3 = D 12 0 := hR.1.2.2.2
  have hwE : ((1 ≤ pg ∧ pg ≤ 999) ∧ ((if 1 = 4 then 1450 else 0) ≤ vl ∧ vl ≤ 15) ∧ 1 ≤ wt ∧ wt ≤ 9) ↔ ((1 ≤ pg ∧ pg ≤ 999) ∧ (0 ≤ vl ∧ vl ≤ 15) ∧ 1 ≤ wt ∧ wt ≤ 9) := by
    constructor
    · rintro ⟨a, b, c⟩; simp at b; exact ⟨a, by omega, c⟩
    · rintro ⟨a, b, c⟩; refine ⟨a, ?_, c⟩; simp; omega
  refine zx_aloadN dX10_addTypefaceClue_0 rfl rfl ?_
  refine zx_iloadN dX10_addTypefaceClue_1 rfl rfl ?_
  refine zx_iconst dX10_addTypefaceClue_2 ?_
  refine zx_iloadN dX10_addTypefaceClue_3 rfl rfl ?_
  refine zx_iloadN dX10_addTypefaceClue_4 rfl rfl ?_
  refine zx_bipush dX10_addTypefaceClue_5 rfl ?_
  refine zy_cvR [zi pg, zi 1, zi vl, zi wt, zi 15] (sX10_adds_t2 (D := D) hfl hz (by first | assumption | omega) (by first | assumption | (refine Rel_put (by decide) ?_; assumption) | (refine Rel_put (by decide) (Rel_put (by decide) ?_); assumption) | (refine Rel_put (by decide) (Rel_put (by decide) (Rel_put (by decide) ?_)); assumption)) (by first | exact hz _ _ | assumption | exact zr_b _ | exact zcmp_r _ _ | (unfold zr at *; omega)) (by unfold zr; omega) (by first | exact hz _ _ | assumption | exact zr_b _ | exact zcmp_r _ _ | (unfold zr at *; omega)) (by first | exact hz _ _ | assumption | exact zr_b _ | exact zcmp_r _ _ | (unfold zr at *; omega)) (by unfold zr; omega) (hwE.mpr hw) (by first | assumption | omega)) dX10_addTypefaceClue_7 (by decide) rfl cw_RX10_455 okX10_adds rfl (Nat.le_of_ble_eq_true rfl) ⟨Nat.le_of_ble_eq_true rfl, Nat.le_of_ble_eq_true rfl, Nat.le_of_ble_eq_true rfl, Nat.le_of_ble_eq_true rfl⟩ (fun τ7 hr7 => ?_)
  have hz7 : zOK τ7 := hr7.1
  refine zx_iret rfl rfl dX10_addTypefaceClue_10 ?_
  rw [hQ]
  refine ⟨congrArg (fun z : Int => (Sum.inl (some (zi z)) : Option zV ⊕ String)) ?_, ?_⟩
  · rfl
  exact hr7
set_option maxRecDepth 20000 in
set_option maxHeartbeats 2000000 in
theorem sX10_addTypefaceClue {l : Launch} {w : zW} (hfl : l.stackTraces = false) {σ : zS} {D : zBk} {pg vl wt : Int} (hz : zOK σ) (hW : WF D) (hR : Rel D (σ.1 262)) (h1 : zr pg) (h3 : zr vl) (h4 : zr wt) (hm5 : 0 ≤ σ.1 261 5 ∧ σ.1 261 5 ≤ 8) (hw : (1 ≤ pg ∧ pg ≤ 999) ∧ (0 ≤ vl ∧ vl ≤ 15) ∧ 1 ≤ wt ∧ wt ≤ 9) (hw2 : D 12 0 < 40) : Sp l w mX10_addTypefaceClue 4 0 [zf 10 261, zi pg, zi vl, zi wt] σ (zqv (some (zi (D 12 0))) (fun τ => zOK τ ∧ mfr σ τ mA mF ∧ Rel (adB D pg 1 vl wt) (τ.1 262) ∧ MPu σ τ (σ.1 262) ∧ τ.1 261 6 = 0)) := by
  obtain ⟨Q, hQ⟩ : ∃ Q : zQ, Q = (zqv (some (zi (D 12 0))) (fun τ => zOK τ ∧ mfr σ τ mA mF ∧ Rel (adB D pg 1 vl wt) (τ.1 262) ∧ MPu σ τ (σ.1 262) ∧ τ.1 261 6 = 0)) := ⟨_, rfl⟩
  rw [← hQ]
  refine zx_enter hfl (by decide) rfl 0 rfl ?_
  show zX l w mX10_addTypefaceClue (zMQ w 4 0 Q) 0 [zf 10 261, zi pg, zi vl, zi wt] [] 0 σ
  have hP : 0 ≤ D 1 0 ∧ D 1 0 ≤ 8 := hW.1.1
  have hM : 0 ≤ D 1 7 ∧ D 1 7 ≤ 8 := hW.1.2.1
  have hE : 0 ≤ D 1 10 ∧ D 1 10 ≤ 12 := hW.1.2.2.1
  have hK : 0 ≤ D 12 0 ∧ D 12 0 ≤ 40 := hW.1.2.2.2
  have r0 : σ.1 262 0 = D 1 0 := hR.1.1
  have r1 : σ.1 262 1 = D 1 7 := hR.1.2.1
  have r2 : σ.1 262 2 = D 1 10 := hR.1.2.2.1
  have r3 : σ.1 262 3 = D 12 0 := hR.1.2.2.2
  have hwE : ((1 ≤ pg ∧ pg ≤ 999) ∧ ((if 1 = 4 then 1450 else 0) ≤ vl ∧ vl ≤ 15) ∧ 1 ≤ wt ∧ wt ≤ 9) ↔ ((1 ≤ pg ∧ pg ≤ 999) ∧ (0 ≤ vl ∧ vl ≤ 15) ∧ 1 ≤ wt ∧ wt ≤ 9) := by
    constructor
    · rintro ⟨a, b, c⟩; simp at b; exact ⟨a, by omega, c⟩
    · rintro ⟨a, b, c⟩; refine ⟨a, ?_, c⟩; simp; omega
  refine zx_aloadN dX10_addTypefaceClue_0 rfl rfl ?_
  refine zx_iloadN dX10_addTypefaceClue_1 rfl rfl ?_
  refine zx_iconst dX10_addTypefaceClue_2 ?_
  refine zx_iloadN dX10_addTypefaceClue_3 rfl rfl ?_
  refine zx_iloadN dX10_addTypefaceClue_4 rfl rfl ?_
  refine zx_bipush dX10_addTypefaceClue_5 rfl ?_
  refine zy_cvR [zi pg, zi 1, zi vl, zi wt, zi 15] (sX10_adds (D := D) hfl hz (by first | assumption | omega) (by first | assumption | (refine Rel_put (by decide) ?_; assumption) | (refine Rel_put (by decide) (Rel_put (by decide) ?_); assumption) | (refine Rel_put (by decide) (Rel_put (by decide) (Rel_put (by decide) ?_)); assumption)) (by first | exact hz _ _ | assumption | exact zr_b _ | exact zcmp_r _ _ | (unfold zr at *; omega)) (by unfold zr; omega) (by first | exact hz _ _ | assumption | exact zr_b _ | exact zcmp_r _ _ | (unfold zr at *; omega)) (by first | exact hz _ _ | assumption | exact zr_b _ | exact zcmp_r _ _ | (unfold zr at *; omega)) (by unfold zr; omega) (by first | assumption | omega) (hwE.mpr hw) (by first | assumption | omega)) dX10_addTypefaceClue_7 (by decide) rfl cw_RX10_455 okX10_adds rfl (Nat.le_of_ble_eq_true rfl) ⟨Nat.le_of_ble_eq_true rfl, Nat.le_of_ble_eq_true rfl, Nat.le_of_ble_eq_true rfl, Nat.le_of_ble_eq_true rfl⟩ (fun τ7 hr7 => ?_)
  have hz7 : zOK τ7 := hr7.1
  refine zx_iret rfl rfl dX10_addTypefaceClue_10 ?_
  rw [hQ]
  refine ⟨congrArg (fun z : Int => (Sum.inl (some (zi z)) : Option zV ⊕ String)) ?_, ?_⟩
  · rfl
  exact hr7
set_option maxRecDepth 20000 in
set_option maxHeartbeats 2000000 in
theorem sX10_addWatermarkClue_t1 {l : Launch} {w : zW} (hfl : l.stackTraces = false) {σ : zS} {D : zBk} {pg vl wt : Int} (hz : zOK σ) (hW : WF D) (hR : Rel D (σ.1 262)) (h1 : zr pg) (h3 : zr vl) (h4 : zr wt) (hw : ¬ ((1 ≤ pg ∧ pg ≤ 999) ∧ (0 ≤ vl ∧ vl ≤ D 1 7 - 1) ∧ 1 ≤ wt ∧ wt ≤ 9)) : Sp l w mX10_addWatermarkClue 4 0 [zf 10 261, zi pg, zi vl, zi wt] σ (zqv (some (zi 0)) (fun τ => zOK τ ∧ QP D σ τ ∧ τ.1 261 6 = 1)) := by
  obtain ⟨Q, hQ⟩ : ∃ Q : zQ, Q = (zqv (some (zi 0)) (fun τ => zOK τ ∧ QP D σ τ ∧ τ.1 261 6 = 1)) := ⟨_, rfl⟩
  rw [← hQ]
  refine zx_enter hfl (by decide) rfl 0 rfl ?_
  show zX l w mX10_addWatermarkClue (zMQ w 4 0 Q) 0 [zf 10 261, zi pg, zi vl, zi wt] [] 0 σ
  have hP : 0 ≤ D 1 0 ∧ D 1 0 ≤ 8 := hW.1.1
  have hM : 0 ≤ D 1 7 ∧ D 1 7 ≤ 8 := hW.1.2.1
  have hE : 0 ≤ D 1 10 ∧ D 1 10 ≤ 12 := hW.1.2.2.1
  have hK : 0 ≤ D 12 0 ∧ D 12 0 ≤ 40 := hW.1.2.2.2
  have r0 : σ.1 262 0 = D 1 0 := hR.1.1
  have r1 : σ.1 262 1 = D 1 7 := hR.1.2.1
  have r2 : σ.1 262 2 = D 1 10 := hR.1.2.2.1
  have r3 : σ.1 262 3 = D 12 0 := hR.1.2.2.2
  have hwE : ((1 ≤ pg ∧ pg ≤ 999) ∧ ((if 2 = 4 then 1450 else 0) ≤ vl ∧ vl ≤ (D 1 7 - 1)) ∧ 1 ≤ wt ∧ wt ≤ 9) ↔ ((1 ≤ pg ∧ pg ≤ 999) ∧ (0 ≤ vl ∧ vl ≤ D 1 7 - 1) ∧ 1 ≤ wt ∧ wt ≤ 9) := by
    constructor
    · rintro ⟨a, b, c⟩; simp at b; exact ⟨a, by omega, c⟩
    · rintro ⟨a, b, c⟩; refine ⟨a, ?_, c⟩; simp; omega
  refine zx_aloadN dX10_addWatermarkClue_0 rfl rfl ?_
  refine zx_iloadN dX10_addWatermarkClue_1 rfl rfl ?_
  refine zx_iconst dX10_addWatermarkClue_2 ?_
  refine zx_iloadN dX10_addWatermarkClue_3 rfl rfl ?_
  refine zx_iloadN dX10_addWatermarkClue_4 rfl rfl ?_
  refine zx_aloadN dX10_addWatermarkClue_5 rfl rfl ?_
  refine zy_getR (q' := 262) fl_RX10_7 rfl dX10_addWatermarkClue_6 rfl ?_
  refine zx_iconst dX10_addWatermarkClue_9 ?_
  refine zy_iald (v := σ.1 262 1) rfl (by decide) (by decide) dX10_addWatermarkClue_10 (by omega) (by omega) rfl ?_
  refine zx_iconst dX10_addWatermarkClue_11 ?_
  refine zx_isub dX10_addWatermarkClue_12 ?_
  refine zy_top (b := D 1 7 - 1) (by omega) ?_
  refine zy_cvR [zi pg, zi 2, zi vl, zi wt, zi (D 1 7 - 1)] (sX10_adds_t1 (D := D) hfl hz (by first | assumption | omega) (by first | assumption | (refine Rel_put (by decide) ?_; assumption) | (refine Rel_put (by decide) (Rel_put (by decide) ?_); assumption) | (refine Rel_put (by decide) (Rel_put (by decide) (Rel_put (by decide) ?_)); assumption)) (by first | exact hz _ _ | assumption | exact zr_b _ | exact zcmp_r _ _ | (unfold zr at *; omega)) (by unfold zr; omega) (by first | exact hz _ _ | assumption | exact zr_b _ | exact zcmp_r _ _ | (unfold zr at *; omega)) (by first | exact hz _ _ | assumption | exact zr_b _ | exact zcmp_r _ _ | (unfold zr at *; omega)) (by unfold zr; omega) (fun q => hw (hwE.mp q))) dX10_addWatermarkClue_13 (by decide) rfl cw_RX10_455 okX10_adds rfl (Nat.le_of_ble_eq_true rfl) ⟨Nat.le_of_ble_eq_true rfl, Nat.le_of_ble_eq_true rfl, Nat.le_of_ble_eq_true rfl, Nat.le_of_ble_eq_true rfl⟩ (fun τ13 hr13 => ?_)
  have hz13 : zOK τ13 := hr13.1
  refine zx_iret rfl rfl dX10_addWatermarkClue_16 ?_
  rw [hQ]
  refine ⟨congrArg (fun z : Int => (Sum.inl (some (zi z)) : Option zV ⊕ String)) ?_, ?_⟩
  · rfl
  exact hr13
set_option maxRecDepth 20000 in
set_option maxHeartbeats 2000000 in
theorem sX10_addWatermarkClue_t2 {l : Launch} {w : zW} (hfl : l.stackTraces = false) {σ : zS} {D : zBk} {pg vl wt : Int} (hz : zOK σ) (hW : WF D) (hR : Rel D (σ.1 262)) (h1 : zr pg) (h3 : zr vl) (h4 : zr wt) (hw : (1 ≤ pg ∧ pg ≤ 999) ∧ (0 ≤ vl ∧ vl ≤ D 1 7 - 1) ∧ 1 ≤ wt ∧ wt ≤ 9) (hw2 : ¬ (D 12 0 < 40)) : Sp l w mX10_addWatermarkClue 4 0 [zf 10 261, zi pg, zi vl, zi wt] σ (zqv (some (zi 0)) (fun τ => zOK τ ∧ QP D σ τ ∧ τ.1 261 6 = 2)) := by
  obtain ⟨Q, hQ⟩ : ∃ Q : zQ, Q = (zqv (some (zi 0)) (fun τ => zOK τ ∧ QP D σ τ ∧ τ.1 261 6 = 2)) := ⟨_, rfl⟩
  rw [← hQ]
  refine zx_enter hfl (by decide) rfl 0 rfl ?_
  show zX l w mX10_addWatermarkClue (zMQ w 4 0 Q) 0 [zf 10 261, zi pg, zi vl, zi wt] [] 0 σ
  have hP : 0 ≤ D 1 0 ∧ D 1 0 ≤ 8 := hW.1.1
  have hM : 0 ≤ D 1 7 ∧ D 1 7 ≤ 8 := hW.1.2.1
  have hE : 0 ≤ D 1 10 ∧ D 1 10 ≤ 12 := hW.1.2.2.1
  have hK : 0 ≤ D 12 0 ∧ D 12 0 ≤ 40 := hW.1.2.2.2
  have r0 : σ.1 262 0 = D 1 0 := hR.1.1
  have r1 : σ.1 262 1 = D 1 7 := hR.1.2.1
  have r2 : σ.1 262 2 = D 1 10 := hR.1.2.2.1
  have r3 : σ.1 262 3 = D 12 0 := hR.1.2.2.2
  have hwE : ((1 ≤ pg ∧ pg ≤ 999) ∧ ((if 2 = 4 then 1450 else 0) ≤ vl ∧ vl ≤ (D 1 7 - 1)) ∧ 1 ≤ wt ∧ wt ≤ 9) ↔ ((1 ≤ pg ∧ pg ≤ 999) ∧ (0 ≤ vl ∧ vl ≤ D 1 7 - 1) ∧ 1 ≤ wt ∧ wt ≤ 9) := by
    constructor
    · rintro ⟨a, b, c⟩; simp at b; exact ⟨a, by omega, c⟩
    · rintro ⟨a, b, c⟩; refine ⟨a, ?_, c⟩; simp; omega
  refine zx_aloadN dX10_addWatermarkClue_0 rfl rfl ?_
  refine zx_iloadN dX10_addWatermarkClue_1 rfl rfl ?_
  refine zx_iconst dX10_addWatermarkClue_2 ?_
  refine zx_iloadN dX10_addWatermarkClue_3 rfl rfl ?_
  refine zx_iloadN dX10_addWatermarkClue_4 rfl rfl ?_
  refine zx_aloadN dX10_addWatermarkClue_5 rfl rfl ?_
  refine zy_getR (q' := 262) fl_RX10_7 rfl dX10_addWatermarkClue_6 rfl ?_
  refine zx_iconst dX10_addWatermarkClue_9 ?_
  refine zy_iald (v := σ.1 262 1) rfl (by decide) (by decide) dX10_addWatermarkClue_10 (by omega) (by omega) rfl ?_
  refine zx_iconst dX10_addWatermarkClue_11 ?_
  refine zx_isub dX10_addWatermarkClue_12 ?_
  refine zy_top (b := D 1 7 - 1) (by omega) ?_
  refine zy_cvR [zi pg, zi 2, zi vl, zi wt, zi (D 1 7 - 1)] (sX10_adds_t2 (D := D) hfl hz (by first | assumption | omega) (by first | assumption | (refine Rel_put (by decide) ?_; assumption) | (refine Rel_put (by decide) (Rel_put (by decide) ?_); assumption) | (refine Rel_put (by decide) (Rel_put (by decide) (Rel_put (by decide) ?_)); assumption)) (by first | exact hz _ _ | assumption | exact zr_b _ | exact zcmp_r _ _ | (unfold zr at *; omega)) (by unfold zr; omega) (by first | exact hz _ _ | assumption | exact zr_b _ | exact zcmp_r _ _ | (unfold zr at *; omega)) (by first | exact hz _ _ | assumption | exact zr_b _ | exact zcmp_r _ _ | (unfold zr at *; omega)) (by unfold zr; omega) (hwE.mpr hw) (by first | assumption | omega)) dX10_addWatermarkClue_13 (by decide) rfl cw_RX10_455 okX10_adds rfl (Nat.le_of_ble_eq_true rfl) ⟨Nat.le_of_ble_eq_true rfl, Nat.le_of_ble_eq_true rfl, Nat.le_of_ble_eq_true rfl, Nat.le_of_ble_eq_true rfl⟩ (fun τ13 hr13 => ?_)
  have hz13 : zOK τ13 := hr13.1
  refine zx_iret rfl rfl dX10_addWatermarkClue_16 ?_
  rw [hQ]
  refine ⟨congrArg (fun z : Int => (Sum.inl (some (zi z)) : Option zV ⊕ String)) ?_, ?_⟩
  · rfl
  exact hr13
set_option maxRecDepth 20000 in
set_option maxHeartbeats 2000000 in
theorem sX10_addWatermarkClue {l : Launch} {w : zW} (hfl : l.stackTraces = false) {σ : zS} {D : zBk} {pg vl wt : Int} (hz : zOK σ) (hW : WF D) (hR : Rel D (σ.1 262)) (h1 : zr pg) (h3 : zr vl) (h4 : zr wt) (hm5 : 0 ≤ σ.1 261 5 ∧ σ.1 261 5 ≤ 8) (hw : (1 ≤ pg ∧ pg ≤ 999) ∧ (0 ≤ vl ∧ vl ≤ D 1 7 - 1) ∧ 1 ≤ wt ∧ wt ≤ 9) (hw2 : D 12 0 < 40) : Sp l w mX10_addWatermarkClue 4 0 [zf 10 261, zi pg, zi vl, zi wt] σ (zqv (some (zi (D 12 0))) (fun τ => zOK τ ∧ mfr σ τ mA mF ∧ Rel (adB D pg 2 vl wt) (τ.1 262) ∧ MPu σ τ (σ.1 262) ∧ τ.1 261 6 = 0)) := by
  obtain ⟨Q, hQ⟩ : ∃ Q : zQ, Q = (zqv (some (zi (D 12 0))) (fun τ => zOK τ ∧ mfr σ τ mA mF ∧ Rel (adB D pg 2 vl wt) (τ.1 262) ∧ MPu σ τ (σ.1 262) ∧ τ.1 261 6 = 0)) := ⟨_, rfl⟩
  rw [← hQ]
  refine zx_enter hfl (by decide) rfl 0 rfl ?_
  show zX l w mX10_addWatermarkClue (zMQ w 4 0 Q) 0 [zf 10 261, zi pg, zi vl, zi wt] [] 0 σ
  have hP : 0 ≤ D 1 0 ∧ D 1 0 ≤ 8 := hW.1.1
  have hM : 0 ≤ D 1 7 ∧ D 1 7 ≤ 8 := hW.1.2.1
  have hE : 0 ≤ D 1 10 ∧ D 1 10 ≤ 12 := hW.1.2.2.1
  have hK : 0 ≤ D 12 0 ∧ D 12 0 ≤ 40 := hW.1.2.2.2
  have r0 : σ.1 262 0 = D 1 0 := hR.1.1
  have r1 : σ.1 262 1 = D 1 7 := hR.1.2.1
  have r2 : σ.1 262 2 = D 1 10 := hR.1.2.2.1
  have r3 : σ.1 262 3 = D 12 0 := hR.1.2.2.2
  have hwE : ((1 ≤ pg ∧ pg ≤ 999) ∧ ((if 2 = 4 then 1450 else 0) ≤ vl ∧ vl ≤ (D 1 7 - 1)) ∧ 1 ≤ wt ∧ wt ≤ 9) ↔ ((1 ≤ pg ∧ pg ≤ 999) ∧ (0 ≤ vl ∧ vl ≤ D 1 7 - 1) ∧ 1 ≤ wt ∧ wt ≤ 9) := by
    constructor
    · rintro ⟨a, b, c⟩; simp at b; exact ⟨a, by omega, c⟩
    · rintro ⟨a, b, c⟩; refine ⟨a, ?_, c⟩; simp; omega
  refine zx_aloadN dX10_addWatermarkClue_0 rfl rfl ?_
  refine zx_iloadN dX10_addWatermarkClue_1 rfl rfl ?_
  refine zx_iconst dX10_addWatermarkClue_2 ?_
  refine zx_iloadN dX10_addWatermarkClue_3 rfl rfl ?_
  refine zx_iloadN dX10_addWatermarkClue_4 rfl rfl ?_
  refine zx_aloadN dX10_addWatermarkClue_5 rfl rfl ?_
  refine zy_getR (q' := 262) fl_RX10_7 rfl dX10_addWatermarkClue_6 rfl ?_
  refine zx_iconst dX10_addWatermarkClue_9 ?_
  refine zy_iald (v := σ.1 262 1) rfl (by decide) (by decide) dX10_addWatermarkClue_10 (by omega) (by omega) rfl ?_
  refine zx_iconst dX10_addWatermarkClue_11 ?_
  refine zx_isub dX10_addWatermarkClue_12 ?_
  refine zy_top (b := D 1 7 - 1) (by omega) ?_
  refine zy_cvR [zi pg, zi 2, zi vl, zi wt, zi (D 1 7 - 1)] (sX10_adds (D := D) hfl hz (by first | assumption | omega) (by first | assumption | (refine Rel_put (by decide) ?_; assumption) | (refine Rel_put (by decide) (Rel_put (by decide) ?_); assumption) | (refine Rel_put (by decide) (Rel_put (by decide) (Rel_put (by decide) ?_)); assumption)) (by first | exact hz _ _ | assumption | exact zr_b _ | exact zcmp_r _ _ | (unfold zr at *; omega)) (by unfold zr; omega) (by first | exact hz _ _ | assumption | exact zr_b _ | exact zcmp_r _ _ | (unfold zr at *; omega)) (by first | exact hz _ _ | assumption | exact zr_b _ | exact zcmp_r _ _ | (unfold zr at *; omega)) (by unfold zr; omega) (by first | assumption | omega) (hwE.mpr hw) (by first | assumption | omega)) dX10_addWatermarkClue_13 (by decide) rfl cw_RX10_455 okX10_adds rfl (Nat.le_of_ble_eq_true rfl) ⟨Nat.le_of_ble_eq_true rfl, Nat.le_of_ble_eq_true rfl, Nat.le_of_ble_eq_true rfl, Nat.le_of_ble_eq_true rfl⟩ (fun τ13 hr13 => ?_)
  have hz13 : zOK τ13 := hr13.1
  refine zx_iret rfl rfl dX10_addWatermarkClue_16 ?_
  rw [hQ]
  refine ⟨congrArg (fun z : Int => (Sum.inl (some (zi z)) : Option zV ⊕ String)) ?_, ?_⟩
  · rfl
  exact hr13
set_option maxRecDepth 20000 in
set_option maxHeartbeats 2000000 in
theorem sX10_addCityClue_t1 {l : Launch} {w : zW} (hfl : l.stackTraces = false) {σ : zS} {D : zBk} {pg vl wt : Int} (hz : zOK σ) (hW : WF D) (hR : Rel D (σ.1 262)) (h1 : zr pg) (h3 : zr vl) (h4 : zr wt) (hw : ¬ ((1 ≤ pg ∧ pg ≤ 999) ∧ (0 ≤ vl ∧ vl ≤ 9) ∧ 1 ≤ wt ∧ wt ≤ 9)) : Sp l w mX10_addCityClue 4 0 [zf 10 261, zi pg, zi vl, zi wt] σ (zqv (some (zi 0)) (fun τ => zOK τ ∧ QP D σ τ ∧ τ.1 261 6 = 1)) := by
  obtain ⟨Q, hQ⟩ : ∃ Q : zQ, Q = (zqv (some (zi 0)) (fun τ => zOK τ ∧ QP D σ τ ∧ τ.1 261 6 = 1)) := ⟨_, rfl⟩
  rw [← hQ]
  refine zx_enter hfl (by decide) rfl 0 rfl ?_
  show zX l w mX10_addCityClue (zMQ w 4 0 Q) 0 [zf 10 261, zi pg, zi vl, zi wt] [] 0 σ
  have hP : 0 ≤ D 1 0 ∧ D 1 0 ≤ 8 := hW.1.1
  have hM : 0 ≤ D 1 7 ∧ D 1 7 ≤ 8 := hW.1.2.1
  have hE : 0 ≤ D 1 10 ∧ D 1 10 ≤ 12 := hW.1.2.2.1
  have hK : 0 ≤ D 12 0 ∧ D 12 0 ≤ 40 := hW.1.2.2.2
  have r0 : σ.1 262 0 = D 1 0 := hR.1.1
  have r1 : σ.1 262 1 = D 1 7 := hR.1.2.1
  have r2 : σ.1 262 2 = D 1 10 := hR.1.2.2.1
  have r3 : σ.1 262 3 = D 12 0 := hR.1.2.2.2
  have hwE : ((1 ≤ pg ∧ pg ≤ 999) ∧ ((if 3 = 4 then 1450 else 0) ≤ vl ∧ vl ≤ 9) ∧ 1 ≤ wt ∧ wt ≤ 9) ↔ ((1 ≤ pg ∧ pg ≤ 999) ∧ (0 ≤ vl ∧ vl ≤ 9) ∧ 1 ≤ wt ∧ wt ≤ 9) := by
    constructor
    · rintro ⟨a, b, c⟩; simp at b; exact ⟨a, by omega, c⟩
    · rintro ⟨a, b, c⟩; refine ⟨a, ?_, c⟩; simp; omega
  refine zx_aloadN dX10_addCityClue_0 rfl rfl ?_
  refine zx_iloadN dX10_addCityClue_1 rfl rfl ?_
  refine zx_iconst dX10_addCityClue_2 ?_
  refine zx_iloadN dX10_addCityClue_3 rfl rfl ?_
  refine zx_iloadN dX10_addCityClue_4 rfl rfl ?_
  refine zx_bipush dX10_addCityClue_5 rfl ?_
  refine zy_cvR [zi pg, zi 3, zi vl, zi wt, zi 9] (sX10_adds_t1 (D := D) hfl hz (by first | assumption | omega) (by first | assumption | (refine Rel_put (by decide) ?_; assumption) | (refine Rel_put (by decide) (Rel_put (by decide) ?_); assumption) | (refine Rel_put (by decide) (Rel_put (by decide) (Rel_put (by decide) ?_)); assumption)) (by first | exact hz _ _ | assumption | exact zr_b _ | exact zcmp_r _ _ | (unfold zr at *; omega)) (by unfold zr; omega) (by first | exact hz _ _ | assumption | exact zr_b _ | exact zcmp_r _ _ | (unfold zr at *; omega)) (by first | exact hz _ _ | assumption | exact zr_b _ | exact zcmp_r _ _ | (unfold zr at *; omega)) (by unfold zr; omega) (fun q => hw (hwE.mp q))) dX10_addCityClue_7 (by decide) rfl cw_RX10_455 okX10_adds rfl (Nat.le_of_ble_eq_true rfl) ⟨Nat.le_of_ble_eq_true rfl, Nat.le_of_ble_eq_true rfl, Nat.le_of_ble_eq_true rfl, Nat.le_of_ble_eq_true rfl⟩ (fun τ7 hr7 => ?_)
  have hz7 : zOK τ7 := hr7.1
  refine zx_iret rfl rfl dX10_addCityClue_10 ?_
  rw [hQ]
  refine ⟨congrArg (fun z : Int => (Sum.inl (some (zi z)) : Option zV ⊕ String)) ?_, ?_⟩
  · rfl
  exact hr7
set_option maxRecDepth 20000 in
set_option maxHeartbeats 2000000 in
theorem sX10_addCityClue_t2 {l : Launch} {w : zW} (hfl : l.stackTraces = false) {σ : zS} {D : zBk} {pg vl wt : Int} (hz : zOK σ) (hW : WF D) (hR : Rel D (σ.1 262)) (h1 : zr pg) (h3 : zr vl) (h4 : zr wt) (hw : (1 ≤ pg ∧ pg ≤ 999) ∧ (0 ≤ vl ∧ vl ≤ 9) ∧ 1 ≤ wt ∧ wt ≤ 9) (hw2 : ¬ (D 12 0 < 40)) : Sp l w mX10_addCityClue 4 0 [zf 10 261, zi pg, zi vl, zi wt] σ (zqv (some (zi 0)) (fun τ => zOK τ ∧ QP D σ τ ∧ τ.1 261 6 = 2)) := by
  obtain ⟨Q, hQ⟩ : ∃ Q : zQ, Q = (zqv (some (zi 0)) (fun τ => zOK τ ∧ QP D σ τ ∧ τ.1 261 6 = 2)) := ⟨_, rfl⟩
  rw [← hQ]
  refine zx_enter hfl (by decide) rfl 0 rfl ?_
  show zX l w mX10_addCityClue (zMQ w 4 0 Q) 0 [zf 10 261, zi pg, zi vl, zi wt] [] 0 σ
  have hP : 0 ≤ D 1 0 ∧ D 1 0 ≤ 8 := hW.1.1
  have hM : 0 ≤ D 1 7 ∧ D 1 7 ≤ 8 := hW.1.2.1
  have hE : 0 ≤ D 1 10 ∧ D 1 10 ≤ 12 := hW.1.2.2.1
  have hK : 0 ≤ D 12 0 ∧ D 12 0 ≤ 40 := hW.1.2.2.2
  have r0 : σ.1 262 0 = D 1 0 := hR.1.1
  have r1 : σ.1 262 1 = D 1 7 := hR.1.2.1
  have r2 : σ.1 262 2 = D 1 10 := hR.1.2.2.1
  have r3 : σ.1 262 3 = D 12 0 := hR.1.2.2.2
  have hwE : ((1 ≤ pg ∧ pg ≤ 999) ∧ ((if 3 = 4 then 1450 else 0) ≤ vl ∧ vl ≤ 9) ∧ 1 ≤ wt ∧ wt ≤ 9) ↔ ((1 ≤ pg ∧ pg ≤ 999) ∧ (0 ≤ vl ∧ vl ≤ 9) ∧ 1 ≤ wt ∧ wt ≤ 9) := by
    constructor
    · rintro ⟨a, b, c⟩; simp at b; exact ⟨a, by omega, c⟩
    · rintro ⟨a, b, c⟩; refine ⟨a, ?_, c⟩; simp; omega
  refine zx_aloadN dX10_addCityClue_0 rfl rfl ?_
  refine zx_iloadN dX10_addCityClue_1 rfl rfl ?_
  refine zx_iconst dX10_addCityClue_2 ?_
  refine zx_iloadN dX10_addCityClue_3 rfl rfl ?_
  refine zx_iloadN dX10_addCityClue_4 rfl rfl ?_
  refine zx_bipush dX10_addCityClue_5 rfl ?_
  refine zy_cvR [zi pg, zi 3, zi vl, zi wt, zi 9] (sX10_adds_t2 (D := D) hfl hz (by first | assumption | omega) (by first | assumption | (refine Rel_put (by decide) ?_; assumption) | (refine Rel_put (by decide) (Rel_put (by decide) ?_); assumption) | (refine Rel_put (by decide) (Rel_put (by decide) (Rel_put (by decide) ?_)); assumption)) (by first | exact hz _ _ | assumption | exact zr_b _ | exact zcmp_r _ _ | (unfold zr at *; omega)) (by unfold zr; omega) (by first | exact hz _ _ | assumption | exact zr_b _ | exact zcmp_r _ _ | (unfold zr at *; omega)) (by first | exact hz _ _ | assumption | exact zr_b _ | exact zcmp_r _ _ | (unfold zr at *; omega)) (by unfold zr; omega) (hwE.mpr hw) (by first | assumption | omega)) dX10_addCityClue_7 (by decide) rfl cw_RX10_455 okX10_adds rfl (Nat.le_of_ble_eq_true rfl) ⟨Nat.le_of_ble_eq_true rfl, Nat.le_of_ble_eq_true rfl, Nat.le_of_ble_eq_true rfl, Nat.le_of_ble_eq_true rfl⟩ (fun τ7 hr7 => ?_)
  have hz7 : zOK τ7 := hr7.1
  refine zx_iret rfl rfl dX10_addCityClue_10 ?_
  rw [hQ]
  refine ⟨congrArg (fun z : Int => (Sum.inl (some (zi z)) : Option zV ⊕ String)) ?_, ?_⟩
  · rfl
  exact hr7
set_option maxRecDepth 20000 in
set_option maxHeartbeats 2000000 in
theorem sX10_addCityClue {l : Launch} {w : zW} (hfl : l.stackTraces = false) {σ : zS} {D : zBk} {pg vl wt : Int} (hz : zOK σ) (hW : WF D) (hR : Rel D (σ.1 262)) (h1 : zr pg) (h3 : zr vl) (h4 : zr wt) (hm5 : 0 ≤ σ.1 261 5 ∧ σ.1 261 5 ≤ 8) (hw : (1 ≤ pg ∧ pg ≤ 999) ∧ (0 ≤ vl ∧ vl ≤ 9) ∧ 1 ≤ wt ∧ wt ≤ 9) (hw2 : D 12 0 < 40) : Sp l w mX10_addCityClue 4 0 [zf 10 261, zi pg, zi vl, zi wt] σ (zqv (some (zi (D 12 0))) (fun τ => zOK τ ∧ mfr σ τ mA mF ∧ Rel (adB D pg 3 vl wt) (τ.1 262) ∧ MPu σ τ (σ.1 262) ∧ τ.1 261 6 = 0)) := by
  obtain ⟨Q, hQ⟩ : ∃ Q : zQ, Q = (zqv (some (zi (D 12 0))) (fun τ => zOK τ ∧ mfr σ τ mA mF ∧ Rel (adB D pg 3 vl wt) (τ.1 262) ∧ MPu σ τ (σ.1 262) ∧ τ.1 261 6 = 0)) := ⟨_, rfl⟩
  rw [← hQ]
  refine zx_enter hfl (by decide) rfl 0 rfl ?_
  show zX l w mX10_addCityClue (zMQ w 4 0 Q) 0 [zf 10 261, zi pg, zi vl, zi wt] [] 0 σ
  have hP : 0 ≤ D 1 0 ∧ D 1 0 ≤ 8 := hW.1.1
  have hM : 0 ≤ D 1 7 ∧ D 1 7 ≤ 8 := hW.1.2.1
  have hE : 0 ≤ D 1 10 ∧ D 1 10 ≤ 12 := hW.1.2.2.1
  have hK : 0 ≤ D 12 0 ∧ D 12 0 ≤ 40 := hW.1.2.2.2
  have r0 : σ.1 262 0 = D 1 0 := hR.1.1
  have r1 : σ.1 262 1 = D 1 7 := hR.1.2.1
  have r2 : σ.1 262 2 = D 1 10 := hR.1.2.2.1
  have r3 : σ.1 262 3 = D 12 0 := hR.1.2.2.2
  have hwE : ((1 ≤ pg ∧ pg ≤ 999) ∧ ((if 3 = 4 then 1450 else 0) ≤ vl ∧ vl ≤ 9) ∧ 1 ≤ wt ∧ wt ≤ 9) ↔ ((1 ≤ pg ∧ pg ≤ 999) ∧ (0 ≤ vl ∧ vl ≤ 9) ∧ 1 ≤ wt ∧ wt ≤ 9) := by
    constructor
    · rintro ⟨a, b, c⟩; simp at b; exact ⟨a, by omega, c⟩
    · rintro ⟨a, b, c⟩; refine ⟨a, ?_, c⟩; simp; omega
  refine zx_aloadN dX10_addCityClue_0 rfl rfl ?_
  refine zx_iloadN dX10_addCityClue_1 rfl rfl ?_
  refine zx_iconst dX10_addCityClue_2 ?_
  refine zx_iloadN dX10_addCityClue_3 rfl rfl ?_
  refine zx_iloadN dX10_addCityClue_4 rfl rfl ?_
  refine zx_bipush dX10_addCityClue_5 rfl ?_
  refine zy_cvR [zi pg, zi 3, zi vl, zi wt, zi 9] (sX10_adds (D := D) hfl hz (by first | assumption | omega) (by first | assumption | (refine Rel_put (by decide) ?_; assumption) | (refine Rel_put (by decide) (Rel_put (by decide) ?_); assumption) | (refine Rel_put (by decide) (Rel_put (by decide) (Rel_put (by decide) ?_)); assumption)) (by first | exact hz _ _ | assumption | exact zr_b _ | exact zcmp_r _ _ | (unfold zr at *; omega)) (by unfold zr; omega) (by first | exact hz _ _ | assumption | exact zr_b _ | exact zcmp_r _ _ | (unfold zr at *; omega)) (by first | exact hz _ _ | assumption | exact zr_b _ | exact zcmp_r _ _ | (unfold zr at *; omega)) (by unfold zr; omega) (by first | assumption | omega) (hwE.mpr hw) (by first | assumption | omega)) dX10_addCityClue_7 (by decide) rfl cw_RX10_455 okX10_adds rfl (Nat.le_of_ble_eq_true rfl) ⟨Nat.le_of_ble_eq_true rfl, Nat.le_of_ble_eq_true rfl, Nat.le_of_ble_eq_true rfl, Nat.le_of_ble_eq_true rfl⟩ (fun τ7 hr7 => ?_)
  have hz7 : zOK τ7 := hr7.1
  refine zx_iret rfl rfl dX10_addCityClue_10 ?_
  rw [hQ]
  refine ⟨congrArg (fun z : Int => (Sum.inl (some (zi z)) : Option zV ⊕ String)) ?_, ?_⟩
  · rfl
  exact hr7
set_option maxRecDepth 20000 in
set_option maxHeartbeats 2000000 in
theorem sX10_addDateClue_t1 {l : Launch} {w : zW} (hfl : l.stackTraces = false) {σ : zS} {D : zBk} {pg vl wt : Int} (hz : zOK σ) (hW : WF D) (hR : Rel D (σ.1 262)) (h1 : zr pg) (h3 : zr vl) (h4 : zr wt) (hw : ¬ ((1 ≤ pg ∧ pg ≤ 999) ∧ (1450 ≤ vl ∧ vl ≤ 1999) ∧ 1 ≤ wt ∧ wt ≤ 9)) : Sp l w mX10_addDateClue 4 0 [zf 10 261, zi pg, zi vl, zi wt] σ (zqv (some (zi 0)) (fun τ => zOK τ ∧ QP D σ τ ∧ τ.1 261 6 = 1)) := by
  obtain ⟨Q, hQ⟩ : ∃ Q : zQ, Q = (zqv (some (zi 0)) (fun τ => zOK τ ∧ QP D σ τ ∧ τ.1 261 6 = 1)) := ⟨_, rfl⟩
  rw [← hQ]
  refine zx_enter hfl (by decide) rfl 0 rfl ?_
  show zX l w mX10_addDateClue (zMQ w 4 0 Q) 0 [zf 10 261, zi pg, zi vl, zi wt] [] 0 σ
  have hP : 0 ≤ D 1 0 ∧ D 1 0 ≤ 8 := hW.1.1
  have hM : 0 ≤ D 1 7 ∧ D 1 7 ≤ 8 := hW.1.2.1
  have hE : 0 ≤ D 1 10 ∧ D 1 10 ≤ 12 := hW.1.2.2.1
  have hK : 0 ≤ D 12 0 ∧ D 12 0 ≤ 40 := hW.1.2.2.2
  have r0 : σ.1 262 0 = D 1 0 := hR.1.1
  have r1 : σ.1 262 1 = D 1 7 := hR.1.2.1
  have r2 : σ.1 262 2 = D 1 10 := hR.1.2.2.1
  have r3 : σ.1 262 3 = D 12 0 := hR.1.2.2.2
  have hwE : ((1 ≤ pg ∧ pg ≤ 999) ∧ ((if 4 = 4 then 1450 else 0) ≤ vl ∧ vl ≤ 1999) ∧ 1 ≤ wt ∧ wt ≤ 9) ↔ ((1 ≤ pg ∧ pg ≤ 999) ∧ (1450 ≤ vl ∧ vl ≤ 1999) ∧ 1 ≤ wt ∧ wt ≤ 9) := by
    constructor
    · rintro ⟨a, b, c⟩; simp at b; exact ⟨a, by omega, c⟩
    · rintro ⟨a, b, c⟩; refine ⟨a, ?_, c⟩; simp; omega
  refine zx_aloadN dX10_addDateClue_0 rfl rfl ?_
  refine zx_iloadN dX10_addDateClue_1 rfl rfl ?_
  refine zx_iconst dX10_addDateClue_2 ?_
  refine zx_iloadN dX10_addDateClue_3 rfl rfl ?_
  refine zx_iloadN dX10_addDateClue_4 rfl rfl ?_
  refine zx_sipush dX10_addDateClue_5 rfl ?_
  refine zy_cvR [zi pg, zi 4, zi vl, zi wt, zi 1999] (sX10_adds_t1 (D := D) hfl hz (by first | assumption | omega) (by first | assumption | (refine Rel_put (by decide) ?_; assumption) | (refine Rel_put (by decide) (Rel_put (by decide) ?_); assumption) | (refine Rel_put (by decide) (Rel_put (by decide) (Rel_put (by decide) ?_)); assumption)) (by first | exact hz _ _ | assumption | exact zr_b _ | exact zcmp_r _ _ | (unfold zr at *; omega)) (by unfold zr; omega) (by first | exact hz _ _ | assumption | exact zr_b _ | exact zcmp_r _ _ | (unfold zr at *; omega)) (by first | exact hz _ _ | assumption | exact zr_b _ | exact zcmp_r _ _ | (unfold zr at *; omega)) (by unfold zr; omega) (fun q => hw (hwE.mp q))) dX10_addDateClue_8 (by decide) rfl cw_RX10_455 okX10_adds rfl (Nat.le_of_ble_eq_true rfl) ⟨Nat.le_of_ble_eq_true rfl, Nat.le_of_ble_eq_true rfl, Nat.le_of_ble_eq_true rfl, Nat.le_of_ble_eq_true rfl⟩ (fun τ8 hr8 => ?_)
  have hz8 : zOK τ8 := hr8.1
  refine zx_iret rfl rfl dX10_addDateClue_11 ?_
  rw [hQ]
  refine ⟨congrArg (fun z : Int => (Sum.inl (some (zi z)) : Option zV ⊕ String)) ?_, ?_⟩
  · rfl
  exact hr8
set_option maxRecDepth 20000 in
set_option maxHeartbeats 2000000 in
theorem sX10_addDateClue_t2 {l : Launch} {w : zW} (hfl : l.stackTraces = false) {σ : zS} {D : zBk} {pg vl wt : Int} (hz : zOK σ) (hW : WF D) (hR : Rel D (σ.1 262)) (h1 : zr pg) (h3 : zr vl) (h4 : zr wt) (hw : (1 ≤ pg ∧ pg ≤ 999) ∧ (1450 ≤ vl ∧ vl ≤ 1999) ∧ 1 ≤ wt ∧ wt ≤ 9) (hw2 : ¬ (D 12 0 < 40)) : Sp l w mX10_addDateClue 4 0 [zf 10 261, zi pg, zi vl, zi wt] σ (zqv (some (zi 0)) (fun τ => zOK τ ∧ QP D σ τ ∧ τ.1 261 6 = 2)) := by
  obtain ⟨Q, hQ⟩ : ∃ Q : zQ, Q = (zqv (some (zi 0)) (fun τ => zOK τ ∧ QP D σ τ ∧ τ.1 261 6 = 2)) := ⟨_, rfl⟩
  rw [← hQ]
  refine zx_enter hfl (by decide) rfl 0 rfl ?_
  show zX l w mX10_addDateClue (zMQ w 4 0 Q) 0 [zf 10 261, zi pg, zi vl, zi wt] [] 0 σ
  have hP : 0 ≤ D 1 0 ∧ D 1 0 ≤ 8 := hW.1.1
  have hM : 0 ≤ D 1 7 ∧ D 1 7 ≤ 8 := hW.1.2.1
  have hE : 0 ≤ D 1 10 ∧ D 1 10 ≤ 12 := hW.1.2.2.1
  have hK : 0 ≤ D 12 0 ∧ D 12 0 ≤ 40 := hW.1.2.2.2
  have r0 : σ.1 262 0 = D 1 0 := hR.1.1
  have r1 : σ.1 262 1 = D 1 7 := hR.1.2.1
  have r2 : σ.1 262 2 = D 1 10 := hR.1.2.2.1
  have r3 : σ.1 262 3 = D 12 0 := hR.1.2.2.2
  have hwE : ((1 ≤ pg ∧ pg ≤ 999) ∧ ((if 4 = 4 then 1450 else 0) ≤ vl ∧ vl ≤ 1999) ∧ 1 ≤ wt ∧ wt ≤ 9) ↔ ((1 ≤ pg ∧ pg ≤ 999) ∧ (1450 ≤ vl ∧ vl ≤ 1999) ∧ 1 ≤ wt ∧ wt ≤ 9) := by
    constructor
    · rintro ⟨a, b, c⟩; simp at b; exact ⟨a, by omega, c⟩
    · rintro ⟨a, b, c⟩; refine ⟨a, ?_, c⟩; simp; omega
  refine zx_aloadN dX10_addDateClue_0 rfl rfl ?_
  refine zx_iloadN dX10_addDateClue_1 rfl rfl ?_
  refine zx_iconst dX10_addDateClue_2 ?_
  refine zx_iloadN dX10_addDateClue_3 rfl rfl ?_
  refine zx_iloadN dX10_addDateClue_4 rfl rfl ?_
  refine zx_sipush dX10_addDateClue_5 rfl ?_
  refine zy_cvR [zi pg, zi 4, zi vl, zi wt, zi 1999] (sX10_adds_t2 (D := D) hfl hz (by first | assumption | omega) (by first | assumption | (refine Rel_put (by decide) ?_; assumption) | (refine Rel_put (by decide) (Rel_put (by decide) ?_); assumption) | (refine Rel_put (by decide) (Rel_put (by decide) (Rel_put (by decide) ?_)); assumption)) (by first | exact hz _ _ | assumption | exact zr_b _ | exact zcmp_r _ _ | (unfold zr at *; omega)) (by unfold zr; omega) (by first | exact hz _ _ | assumption | exact zr_b _ | exact zcmp_r _ _ | (unfold zr at *; omega)) (by first | exact hz _ _ | assumption | exact zr_b _ | exact zcmp_r _ _ | (unfold zr at *; omega)) (by unfold zr; omega) (hwE.mpr hw) (by first | assumption | omega)) dX10_addDateClue_8 (by decide) rfl cw_RX10_455 okX10_adds rfl (Nat.le_of_ble_eq_true rfl) ⟨Nat.le_of_ble_eq_true rfl, Nat.le_of_ble_eq_true rfl, Nat.le_of_ble_eq_true rfl, Nat.le_of_ble_eq_true rfl⟩ (fun τ8 hr8 => ?_)
  have hz8 : zOK τ8 := hr8.1
  refine zx_iret rfl rfl dX10_addDateClue_11 ?_
  rw [hQ]
  refine ⟨congrArg (fun z : Int => (Sum.inl (some (zi z)) : Option zV ⊕ String)) ?_, ?_⟩
  · rfl
  exact hr8
set_option maxRecDepth 20000 in
set_option maxHeartbeats 2000000 in
theorem sX10_addDateClue {l : Launch} {w : zW} (hfl : l.stackTraces = false) {σ : zS} {D : zBk} {pg vl wt : Int} (hz : zOK σ) (hW : WF D) (hR : Rel D (σ.1 262)) (h1 : zr pg) (h3 : zr vl) (h4 : zr wt) (hm5 : 0 ≤ σ.1 261 5 ∧ σ.1 261 5 ≤ 8) (hw : (1 ≤ pg ∧ pg ≤ 999) ∧ (1450 ≤ vl ∧ vl ≤ 1999) ∧ 1 ≤ wt ∧ wt ≤ 9) (hw2 : D 12 0 < 40) : Sp l w mX10_addDateClue 4 0 [zf 10 261, zi pg, zi vl, zi wt] σ (zqv (some (zi (D 12 0))) (fun τ => zOK τ ∧ mfr σ τ mA mF ∧ Rel (adB D pg 4 vl wt) (τ.1 262) ∧ MPu σ τ (σ.1 262) ∧ τ.1 261 6 = 0)) := by
  obtain ⟨Q, hQ⟩ : ∃ Q : zQ, Q = (zqv (some (zi (D 12 0))) (fun τ => zOK τ ∧ mfr σ τ mA mF ∧ Rel (adB D pg 4 vl wt) (τ.1 262) ∧ MPu σ τ (σ.1 262) ∧ τ.1 261 6 = 0)) := ⟨_, rfl⟩
  rw [← hQ]
  refine zx_enter hfl (by decide) rfl 0 rfl ?_
  show zX l w mX10_addDateClue (zMQ w 4 0 Q) 0 [zf 10 261, zi pg, zi vl, zi wt] [] 0 σ
  have hP : 0 ≤ D 1 0 ∧ D 1 0 ≤ 8 := hW.1.1
  have hM : 0 ≤ D 1 7 ∧ D 1 7 ≤ 8 := hW.1.2.1
  have hE : 0 ≤ D 1 10 ∧ D 1 10 ≤ 12 := hW.1.2.2.1
  have hK : 0 ≤ D 12 0 ∧ D 12 0 ≤ 40 := hW.1.2.2.2
  have r0 : σ.1 262 0 = D 1 0 := hR.1.1
  have r1 : σ.1 262 1 = D 1 7 := hR.1.2.1
  have r2 : σ.1 262 2 = D 1 10 := hR.1.2.2.1
  have r3 : σ.1 262 3 = D 12 0 := hR.1.2.2.2
  have hwE : ((1 ≤ pg ∧ pg ≤ 999) ∧ ((if 4 = 4 then 1450 else 0) ≤ vl ∧ vl ≤ 1999) ∧ 1 ≤ wt ∧ wt ≤ 9) ↔ ((1 ≤ pg ∧ pg ≤ 999) ∧ (1450 ≤ vl ∧ vl ≤ 1999) ∧ 1 ≤ wt ∧ wt ≤ 9) := by
    constructor
    · rintro ⟨a, b, c⟩; simp at b; exact ⟨a, by omega, c⟩
    · rintro ⟨a, b, c⟩; refine ⟨a, ?_, c⟩; simp; omega
  refine zx_aloadN dX10_addDateClue_0 rfl rfl ?_
  refine zx_iloadN dX10_addDateClue_1 rfl rfl ?_
  refine zx_iconst dX10_addDateClue_2 ?_
  refine zx_iloadN dX10_addDateClue_3 rfl rfl ?_
  refine zx_iloadN dX10_addDateClue_4 rfl rfl ?_
  refine zx_sipush dX10_addDateClue_5 rfl ?_
  refine zy_cvR [zi pg, zi 4, zi vl, zi wt, zi 1999] (sX10_adds (D := D) hfl hz (by first | assumption | omega) (by first | assumption | (refine Rel_put (by decide) ?_; assumption) | (refine Rel_put (by decide) (Rel_put (by decide) ?_); assumption) | (refine Rel_put (by decide) (Rel_put (by decide) (Rel_put (by decide) ?_)); assumption)) (by first | exact hz _ _ | assumption | exact zr_b _ | exact zcmp_r _ _ | (unfold zr at *; omega)) (by unfold zr; omega) (by first | exact hz _ _ | assumption | exact zr_b _ | exact zcmp_r _ _ | (unfold zr at *; omega)) (by first | exact hz _ _ | assumption | exact zr_b _ | exact zcmp_r _ _ | (unfold zr at *; omega)) (by unfold zr; omega) (by first | assumption | omega) (hwE.mpr hw) (by first | assumption | omega)) dX10_addDateClue_8 (by decide) rfl cw_RX10_455 okX10_adds rfl (Nat.le_of_ble_eq_true rfl) ⟨Nat.le_of_ble_eq_true rfl, Nat.le_of_ble_eq_true rfl, Nat.le_of_ble_eq_true rfl, Nat.le_of_ble_eq_true rfl⟩ (fun τ8 hr8 => ?_)
  have hz8 : zOK τ8 := hr8.1
  refine zx_iret rfl rfl dX10_addDateClue_11 ?_
  rw [hQ]
  refine ⟨congrArg (fun z : Int => (Sum.inl (some (zi z)) : Option zV ⊕ String)) ?_, ?_⟩
  · rfl
  exact hr8
set_option maxRecDepth 20000 in
set_option maxHeartbeats 2000000 in
theorem sX10_undo_t1 {l : Launch} {w : zW} (hfl : l.stackTraces = false) {σ : zS} {D : zBk}  (hz : zOK σ) (hW : WF D) (hR : Rel D (σ.1 262)) (hm5 : 0 ≤ σ.1 261 5 ∧ σ.1 261 5 ≤ 8) (hw : σ.1 261 5 ≤ 0) : Sp l w mX10_undo 1 0 [zf 10 261] σ (zqv (some (zi 0)) (fun τ => zOK τ ∧ QP D σ τ ∧ τ.1 261 6 = 1)) := by
  obtain ⟨Q, hQ⟩ : ∃ Q : zQ, Q = (zqv (some (zi 0)) (fun τ => zOK τ ∧ QP D σ τ ∧ τ.1 261 6 = 1)) := ⟨_, rfl⟩
  rw [← hQ]
  refine zx_enter hfl (by decide) rfl 0 rfl ?_
  show zX l w mX10_undo (zMQ w 1 0 Q) 0 [zf 10 261] [] 0 σ
  have hP : 0 ≤ D 1 0 ∧ D 1 0 ≤ 8 := hW.1.1
  have hM : 0 ≤ D 1 7 ∧ D 1 7 ≤ 8 := hW.1.2.1
  have hE : 0 ≤ D 1 10 ∧ D 1 10 ≤ 12 := hW.1.2.2.1
  have hK : 0 ≤ D 12 0 ∧ D 12 0 ≤ 40 := hW.1.2.2.2
  have r0 : σ.1 262 0 = D 1 0 := hR.1.1
  have r1 : σ.1 262 1 = D 1 7 := hR.1.2.1
  have r2 : σ.1 262 2 = D 1 10 := hR.1.2.2.1
  have r3 : σ.1 262 3 = D 12 0 := hR.1.2.2.2
  refine zx_aloadN dX10_undo_0 rfl rfl ?_
  refine zx_aloadN dX10_undo_1 rfl rfl ?_
  refine zy_getI fl_RX10_348 rfl dX10_undo_2 rfl ?_
  refine zx_if_le (tgt := 12) (by first | exact hz _ _ | assumption | exact zr_b _ | exact zcmp_r _ _ | (unfold zr at *; omega)) dX10_undo_5 (by decide) (fun h5 => ?_) (fun h5 => ?_)
  · refine zx_iconst dX10_undo_12 ?_
    refine zy_top (b := zb (0 < σ.1 261 5)) (by first | exact (zb_t (by assumption)).symm | exact (zb_t (by omega)).symm | exact (zb_f (by omega)).symm | exact (zb_f (by assumption)).symm | exact (zb_f (fun q => q (by assumption))).symm) ?_
    refine zy_cv [zi (zb (0 < σ.1 261 5))] (sX10_passes (A := (0 < σ.1 261 5)) hfl hz ) dX10_undo_13 (by decide) rfl cw_RX10_220 okX10_passes rfl (Nat.le_of_ble_eq_true rfl) ⟨Nat.le_of_ble_eq_true rfl, Nat.le_of_ble_eq_true rfl, Nat.le_of_ble_eq_true rfl, Nat.le_of_ble_eq_true rfl⟩ ?_
    refine zx_if_ne (tgt := 21) (by first | exact hz _ _ | assumption | exact zr_b _ | exact zcmp_r _ _ | (unfold zr at *; omega)) dX10_undo_16 (by decide) (fun h16 => ?_) (fun h16 => ?_)
    · have h16 := zb_n.mp h16
      exfalso; omega
    · have h16 := zb_0.mp h16
      refine zx_iconst dX10_undo_19 ?_
      refine zx_iret rfl rfl dX10_undo_20 ?_
      rw [hQ]
      refine ⟨congrArg (fun z : Int => (Sum.inl (some (zi z)) : Option zV ⊕ String)) ?_, ?_⟩
      · rfl
      exact ⟨(zOK_put hz (zr_b _)), QP_th hR, (zput_s _ _ _ _).trans (zb_t (by omega))⟩
  · refine zx_iconst dX10_undo_8 ?_
    refine zx_goto (tgt := 13) dX10_undo_9 (by decide) ?_
    refine zy_top (b := zb (0 < σ.1 261 5)) (by first | exact (zb_t (by assumption)).symm | exact (zb_t (by omega)).symm | exact (zb_f (by omega)).symm | exact (zb_f (by assumption)).symm | exact (zb_f (fun q => q (by assumption))).symm) ?_
    refine zy_cv [zi (zb (0 < σ.1 261 5))] (sX10_passes (A := (0 < σ.1 261 5)) hfl hz ) dX10_undo_13 (by decide) rfl cw_RX10_220 okX10_passes rfl (Nat.le_of_ble_eq_true rfl) ⟨Nat.le_of_ble_eq_true rfl, Nat.le_of_ble_eq_true rfl, Nat.le_of_ble_eq_true rfl, Nat.le_of_ble_eq_true rfl⟩ ?_
    refine zx_if_ne (tgt := 21) (by first | exact hz _ _ | assumption | exact zr_b _ | exact zcmp_r _ _ | (unfold zr at *; omega)) dX10_undo_16 (by decide) (fun h16 => ?_) (fun h16 => ?_)
    · have h16 := zb_n.mp h16
      exfalso; omega
    · have h16 := zb_0.mp h16
      refine zx_iconst dX10_undo_19 ?_
      refine zx_iret rfl rfl dX10_undo_20 ?_
      rw [hQ]
      refine ⟨congrArg (fun z : Int => (Sum.inl (some (zi z)) : Option zV ⊕ String)) ?_, ?_⟩
      · rfl
      exact ⟨(zOK_put hz (zr_b _)), QP_th hR, (zput_s _ _ _ _).trans (zb_t (by omega))⟩
set_option maxRecDepth 20000 in
set_option maxHeartbeats 2000000 in
theorem sX10_undo {l : Launch} {w : zW} (hfl : l.stackTraces = false) {σ : zS}  (hz : zOK σ) (hm5 : 0 ≤ σ.1 261 5 ∧ σ.1 261 5 ≤ 8) (hw : 0 < σ.1 261 5) : Sp l w mX10_undo 1 0 [zf 10 261] σ (zqv (some (zi (σ.1 261 5 - 1))) (fun τ => zOK τ ∧ mfr σ τ (fun k => k = 262) (fun i => i = 5 ∨ i = 6) ∧ τ.1 261 5 = σ.1 261 5 - 1 ∧ τ.1 261 6 = 0 ∧ ∀ j, j < 380 → τ.1 262 j = σ.1 266 (380 * (σ.1 261 5 - 1).toNat + j))) := by
  obtain ⟨Q, hQ⟩ : ∃ Q : zQ, Q = (zqv (some (zi (σ.1 261 5 - 1))) (fun τ => zOK τ ∧ mfr σ τ (fun k => k = 262) (fun i => i = 5 ∨ i = 6) ∧ τ.1 261 5 = σ.1 261 5 - 1 ∧ τ.1 261 6 = 0 ∧ ∀ j, j < 380 → τ.1 262 j = σ.1 266 (380 * (σ.1 261 5 - 1).toNat + j))) := ⟨_, rfl⟩
  rw [← hQ]
  refine zx_enter hfl (by decide) rfl 0 rfl ?_
  show zX l w mX10_undo (zMQ w 1 0 Q) 0 [zf 10 261] [] 0 σ
  refine zx_aloadN dX10_undo_0 rfl rfl ?_
  refine zx_aloadN dX10_undo_1 rfl rfl ?_
  refine zy_getI fl_RX10_348 rfl dX10_undo_2 rfl ?_
  refine zx_if_le (tgt := 12) (by first | exact hz _ _ | assumption | exact zr_b _ | exact zcmp_r _ _ | (unfold zr at *; omega)) dX10_undo_5 (by decide) (fun h5 => ?_) (fun h5 => ?_)
  · refine zx_iconst dX10_undo_12 ?_
    refine zy_top (b := zb (0 < σ.1 261 5)) (by first | exact (zb_t (by assumption)).symm | exact (zb_t (by omega)).symm | exact (zb_f (by omega)).symm | exact (zb_f (by assumption)).symm | exact (zb_f (fun q => q (by assumption))).symm) ?_
    refine zy_cv [zi (zb (0 < σ.1 261 5))] (sX10_passes (A := (0 < σ.1 261 5)) hfl hz ) dX10_undo_13 (by decide) rfl cw_RX10_220 okX10_passes rfl (Nat.le_of_ble_eq_true rfl) ⟨Nat.le_of_ble_eq_true rfl, Nat.le_of_ble_eq_true rfl, Nat.le_of_ble_eq_true rfl, Nat.le_of_ble_eq_true rfl⟩ ?_
    refine zx_if_ne (tgt := 21) (by first | exact hz _ _ | assumption | exact zr_b _ | exact zcmp_r _ _ | (unfold zr at *; omega)) dX10_undo_16 (by decide) (fun h16 => ?_) (fun h16 => ?_)
    · have h16 := zb_n.mp h16
      refine zx_aloadN dX10_undo_21 rfl rfl ?_
      refine zx_dup rfl dX10_undo_22 ?_
      refine zy_getI (v := σ.1 261 5) fl_RX10_348 rfl dX10_undo_23 (zput_i _ _ _ _ _ (by omega)) ?_
      refine zx_iconst dX10_undo_26 ?_
      refine zx_isub dX10_undo_27 ?_
      refine zx_putI fl_RX10_348 rfl (Or.inl fp_10_5) dX10_undo_28 ?_
      refine zx_aloadN dX10_undo_31 rfl rfl ?_
      refine zy_getR (q' := 266) fl_RX10_22 rfl dX10_undo_32 rfl ?_
      refine zx_sipush dX10_undo_35 rfl ?_
      refine zx_aloadN dX10_undo_38 rfl rfl ?_
      refine zy_getI (v := (σ.1 261 5) - 1) fl_RX10_348 rfl dX10_undo_39 (zput_s _ _ _ _) ?_
      refine zx_imul dX10_undo_42 ?_
      refine zy_top (b := ((380 * (σ.1 261 5 - 1).toNat : Nat) : Int)) (by omega) ?_
      refine zx_aloadN dX10_undo_43 rfl rfl ?_
      refine zy_getR (q' := 262) fl_RX10_7 rfl dX10_undo_44 rfl ?_
      refine zx_iconst dX10_undo_47 ?_
      refine zy_csvR [zf 30 266, zi ((380 * (σ.1 261 5 - 1).toNat : Nat) : Int), zf 29 262, zi 0] (sX10_copies_c (q := 266) (a := (380 * (σ.1 261 5 - 1).toNat)) (v := 262) (b := 0) hfl (zOK_put (zOK_put hz (zr_b _)) (by first | exact hz _ _ | assumption | exact zr_b _ | exact zcmp_r _ _ | (unfold zr at *; omega))) (by omega) (by first | assumption | omega) (by decide)) dX10_undo_48 cw_RX10_70 okX10_copies rfl (Nat.le_of_ble_eq_true rfl) ⟨Nat.le_of_ble_eq_true rfl, Nat.le_of_ble_eq_true rfl, Nat.le_of_ble_eq_true rfl, Nat.le_of_ble_eq_true rfl⟩ (fun τ48 hr48 => ?_)
      have hz48 : zOK τ48 := hr48.1
      refine zx_aloadN dX10_undo_51 rfl rfl ?_
      refine zy_getI fl_RX10_348 rfl dX10_undo_52 rfl ?_
      refine zx_iret rfl rfl dX10_undo_55 ?_
      rw [hQ]
      refine ⟨congrArg (fun z : Int => (Sum.inl (some (zi z)) : Option zV ⊕ String)) ?_, ?_⟩
      · exact (hr48.2.1 261 (by decide) 5).trans (by first | (rw [zput_s]; done) | (rw [zput_s]; omega))
      obtain ⟨c1, c2, c3, c4⟩ := hr48.2
      refine ⟨hz48, ⟨fun k hk hk2 i => ?_, fun i hi => ?_, c2⟩, ?_, ?_, fun j hj => ?_⟩
      · rw [c1 k hk i, zput_k _ _ _ _ _ hk2, zput_k _ _ _ _ _ hk2]
      · rw [c1 261 (by decide) i, zput_i _ _ _ _ _ (fun q => hi (Or.inl q)), zput_i _ _ _ _ _ (fun q => hi (Or.inr q))]
      · rw [c1 261 (by decide) 5, zput_s]; first | done | exact congrArg (· - 1) (zput_i _ _ _ _ _ (by decide))
      · rw [c1 261 (by decide) 6, zput_i _ _ _ _ _ (by decide), zput_s]; exact zb_f (fun q => q hw)
      · have := c3 j hj
        rw [Nat.zero_add] at this
        rw [this, zput_k _ _ _ _ _ (by decide), zput_k _ _ _ _ _ (by decide)]
    · have h16 := zb_0.mp h16
      exfalso; omega
  · refine zx_iconst dX10_undo_8 ?_
    refine zx_goto (tgt := 13) dX10_undo_9 (by decide) ?_
    refine zy_top (b := zb (0 < σ.1 261 5)) (by first | exact (zb_t (by assumption)).symm | exact (zb_t (by omega)).symm | exact (zb_f (by omega)).symm | exact (zb_f (by assumption)).symm | exact (zb_f (fun q => q (by assumption))).symm) ?_
    refine zy_cv [zi (zb (0 < σ.1 261 5))] (sX10_passes (A := (0 < σ.1 261 5)) hfl hz ) dX10_undo_13 (by decide) rfl cw_RX10_220 okX10_passes rfl (Nat.le_of_ble_eq_true rfl) ⟨Nat.le_of_ble_eq_true rfl, Nat.le_of_ble_eq_true rfl, Nat.le_of_ble_eq_true rfl, Nat.le_of_ble_eq_true rfl⟩ ?_
    refine zx_if_ne (tgt := 21) (by first | exact hz _ _ | assumption | exact zr_b _ | exact zcmp_r _ _ | (unfold zr at *; omega)) dX10_undo_16 (by decide) (fun h16 => ?_) (fun h16 => ?_)
    · have h16 := zb_n.mp h16
      refine zx_aloadN dX10_undo_21 rfl rfl ?_
      refine zx_dup rfl dX10_undo_22 ?_
      refine zy_getI (v := σ.1 261 5) fl_RX10_348 rfl dX10_undo_23 (zput_i _ _ _ _ _ (by omega)) ?_
      refine zx_iconst dX10_undo_26 ?_
      refine zx_isub dX10_undo_27 ?_
      refine zx_putI fl_RX10_348 rfl (Or.inl fp_10_5) dX10_undo_28 ?_
      refine zx_aloadN dX10_undo_31 rfl rfl ?_
      refine zy_getR (q' := 266) fl_RX10_22 rfl dX10_undo_32 rfl ?_
      refine zx_sipush dX10_undo_35 rfl ?_
      refine zx_aloadN dX10_undo_38 rfl rfl ?_
      refine zy_getI (v := (σ.1 261 5) - 1) fl_RX10_348 rfl dX10_undo_39 (zput_s _ _ _ _) ?_
      refine zx_imul dX10_undo_42 ?_
      refine zy_top (b := ((380 * (σ.1 261 5 - 1).toNat : Nat) : Int)) (by omega) ?_
      refine zx_aloadN dX10_undo_43 rfl rfl ?_
      refine zy_getR (q' := 262) fl_RX10_7 rfl dX10_undo_44 rfl ?_
      refine zx_iconst dX10_undo_47 ?_
      refine zy_csvR [zf 30 266, zi ((380 * (σ.1 261 5 - 1).toNat : Nat) : Int), zf 29 262, zi 0] (sX10_copies_c (q := 266) (a := (380 * (σ.1 261 5 - 1).toNat)) (v := 262) (b := 0) hfl (zOK_put (zOK_put hz (zr_b _)) (by first | exact hz _ _ | assumption | exact zr_b _ | exact zcmp_r _ _ | (unfold zr at *; omega))) (by omega) (by first | assumption | omega) (by decide)) dX10_undo_48 cw_RX10_70 okX10_copies rfl (Nat.le_of_ble_eq_true rfl) ⟨Nat.le_of_ble_eq_true rfl, Nat.le_of_ble_eq_true rfl, Nat.le_of_ble_eq_true rfl, Nat.le_of_ble_eq_true rfl⟩ (fun τ48 hr48 => ?_)
      have hz48 : zOK τ48 := hr48.1
      refine zx_aloadN dX10_undo_51 rfl rfl ?_
      refine zy_getI fl_RX10_348 rfl dX10_undo_52 rfl ?_
      refine zx_iret rfl rfl dX10_undo_55 ?_
      rw [hQ]
      refine ⟨congrArg (fun z : Int => (Sum.inl (some (zi z)) : Option zV ⊕ String)) ?_, ?_⟩
      · exact (hr48.2.1 261 (by decide) 5).trans (by first | (rw [zput_s]; done) | (rw [zput_s]; omega))
      obtain ⟨c1, c2, c3, c4⟩ := hr48.2
      refine ⟨hz48, ⟨fun k hk hk2 i => ?_, fun i hi => ?_, c2⟩, ?_, ?_, fun j hj => ?_⟩
      · rw [c1 k hk i, zput_k _ _ _ _ _ hk2, zput_k _ _ _ _ _ hk2]
      · rw [c1 261 (by decide) i, zput_i _ _ _ _ _ (fun q => hi (Or.inl q)), zput_i _ _ _ _ _ (fun q => hi (Or.inr q))]
      · rw [c1 261 (by decide) 5, zput_s]; first | done | exact congrArg (· - 1) (zput_i _ _ _ _ _ (by decide))
      · rw [c1 261 (by decide) 6, zput_i _ _ _ _ _ (by decide), zput_s]; exact zb_f (fun q => q hw)
      · have := c3 j hj
        rw [Nat.zero_add] at this
        rw [this, zput_k _ _ _ _ _ (by decide), zput_k _ _ _ _ _ (by decide)]
    · have h16 := zb_0.mp h16
      exfalso; omega
set_option maxRecDepth 20000 in
set_option maxHeartbeats 2000000 in
theorem sX10_save {l : Launch} {w : zW} (hfl : l.stackTraces = false) {σ : zS} {D : zBk}  (hz : zOK σ) (hW : WF D) (hR : Rel D (σ.1 262)) : Sp l w mX10_save 1 0 [zf 10 261] σ (zqv (some (zi (D 12 0))) (fun τ => zOK τ ∧ mfr σ τ (fun k => k = 263) (fun i => i = 6 ∨ i = 7) ∧ τ.1 261 7 = 1 ∧ τ.1 261 6 = 0 ∧ ∀ j, j < 380 → τ.1 263 j = σ.1 262 j)) := by
  obtain ⟨Q, hQ⟩ : ∃ Q : zQ, Q = (zqv (some (zi (D 12 0))) (fun τ => zOK τ ∧ mfr σ τ (fun k => k = 263) (fun i => i = 6 ∨ i = 7) ∧ τ.1 261 7 = 1 ∧ τ.1 261 6 = 0 ∧ ∀ j, j < 380 → τ.1 263 j = σ.1 262 j)) := ⟨_, rfl⟩
  rw [← hQ]
  refine zx_enter hfl (by decide) rfl 0 rfl ?_
  show zX l w mX10_save (zMQ w 1 0 Q) 0 [zf 10 261] [] 0 σ
  have hP : 0 ≤ D 1 0 ∧ D 1 0 ≤ 8 := hW.1.1
  have hM : 0 ≤ D 1 7 ∧ D 1 7 ≤ 8 := hW.1.2.1
  have hE : 0 ≤ D 1 10 ∧ D 1 10 ≤ 12 := hW.1.2.2.1
  have hK : 0 ≤ D 12 0 ∧ D 12 0 ≤ 40 := hW.1.2.2.2
  have r0 : σ.1 262 0 = D 1 0 := hR.1.1
  have r1 : σ.1 262 1 = D 1 7 := hR.1.2.1
  have r2 : σ.1 262 2 = D 1 10 := hR.1.2.2.1
  have r3 : σ.1 262 3 = D 12 0 := hR.1.2.2.2
  refine zx_aloadN dX10_save_0 rfl rfl ?_
  refine zx_iconst dX10_save_1 ?_
  refine zx_putI fl_RX10_67 rfl (Or.inl fp_10_6) dX10_save_2 ?_
  refine zx_aloadN dX10_save_5 rfl rfl ?_
  refine zy_getR (q' := 262) fl_RX10_7 rfl dX10_save_6 rfl ?_
  refine zx_iconst dX10_save_9 ?_
  refine zx_aloadN dX10_save_10 rfl rfl ?_
  refine zy_getR (q' := 263) fl_RX10_13 rfl dX10_save_11 rfl ?_
  refine zx_iconst dX10_save_14 ?_
  refine zy_csvR [zf 29 262, zi 0, zf 29 263, zi 0] (sX10_copies_a (q := 262) (a := 0) (v := 263) (b := 0) hfl (zOK_put hz (by unfold zr; omega)) (by first | assumption | omega) (by first | assumption | omega) (by decide)) dX10_save_15 cw_RX10_70 okX10_copies rfl (Nat.le_of_ble_eq_true rfl) ⟨Nat.le_of_ble_eq_true rfl, Nat.le_of_ble_eq_true rfl, Nat.le_of_ble_eq_true rfl, Nat.le_of_ble_eq_true rfl⟩ (fun τ15 hr15 => ?_)
  have hz15 : zOK τ15 := hr15.1
  have k262 := fun i => (hr15.2.1 262 (by decide) i).trans (zput_k σ 261 6 0 i (by decide))
  have k3 := k262 3
  refine zx_aloadN dX10_save_18 rfl rfl ?_
  refine zx_iconst dX10_save_19 ?_
  refine zx_putI fl_RX10_466 rfl (Or.inr ⟨fp_10_7, Or.inr rfl⟩) dX10_save_20 ?_
  refine zx_aloadN dX10_save_23 rfl rfl ?_
  refine zy_getR (q' := 262) fl_RX10_7 rfl dX10_save_24 rfl ?_
  refine zx_iconst dX10_save_27 ?_
  refine zy_iald (v := τ15.1 262 3) rfl (by decide) (by decide) dX10_save_28 (by omega) (by omega) (zput_k _ _ _ _ _ (by omega)) ?_
  refine zx_iret rfl rfl dX10_save_29 ?_
  rw [hQ]
  refine ⟨congrArg (fun z : Int => (Sum.inl (some (zi z)) : Option zV ⊕ String)) ?_, ?_⟩
  · exact k3.trans r3
  obtain ⟨c1, c2, c3, c4⟩ := hr15.2
  refine ⟨(zOK_put hz15 (by unfold zr; omega)), ⟨fun k hk hk2 i => ?_, fun i hi => ?_, c2⟩, zput_s _ _ _ _, ?_, fun j hj => ?_⟩
  · rw [zput_k _ _ _ _ _ hk2, c1 k hk i, zput_k _ _ _ _ _ hk2]
  · rw [zput_i _ _ _ _ _ (fun q => hi (Or.inr q)), c1 261 (by decide) i, zput_i _ _ _ _ _ (fun q => hi (Or.inl q))]
  · rw [zput_i _ _ _ _ _ (by decide), c1 261 (by decide) 6, zput_s]
  · have := c3 j hj
    rw [Nat.zero_add] at this
    rw [zput_k _ _ _ _ _ (by decide), this, zput_k _ _ _ _ _ (by decide)]
set_option maxRecDepth 20000 in
set_option maxHeartbeats 2000000 in
theorem sX10_restore_t1 {l : Launch} {w : zW} (hfl : l.stackTraces = false) {σ : zS} {D : zBk}  (hz : zOK σ) (hW : WF D) (hR : Rel D (σ.1 262)) (hw : σ.1 261 7 = 0) : Sp l w mX10_restore 1 0 [zf 10 261] σ (zqv (some (zi 0)) (fun τ => zOK τ ∧ QP D σ τ ∧ τ.1 261 6 = 1)) := by
  obtain ⟨Q, hQ⟩ : ∃ Q : zQ, Q = (zqv (some (zi 0)) (fun τ => zOK τ ∧ QP D σ τ ∧ τ.1 261 6 = 1)) := ⟨_, rfl⟩
  rw [← hQ]
  refine zx_enter hfl (by decide) rfl 0 rfl ?_
  show zX l w mX10_restore (zMQ w 1 0 Q) 0 [zf 10 261] [] 0 σ
  have hP : 0 ≤ D 1 0 ∧ D 1 0 ≤ 8 := hW.1.1
  have hM : 0 ≤ D 1 7 ∧ D 1 7 ≤ 8 := hW.1.2.1
  have hE : 0 ≤ D 1 10 ∧ D 1 10 ≤ 12 := hW.1.2.2.1
  have hK : 0 ≤ D 12 0 ∧ D 12 0 ≤ 40 := hW.1.2.2.2
  have r0 : σ.1 262 0 = D 1 0 := hR.1.1
  have r1 : σ.1 262 1 = D 1 7 := hR.1.2.1
  have r2 : σ.1 262 2 = D 1 10 := hR.1.2.2.1
  have r3 : σ.1 262 3 = D 12 0 := hR.1.2.2.2
  refine zx_aloadN dX10_restore_0 rfl rfl ?_
  refine zx_aloadN dX10_restore_1 rfl rfl ?_
  refine zy_getI fl_RX10_466 rfl dX10_restore_2 rfl ?_
  refine zy_top (b := zb False) (hw.trans (zb_f (fun q => q)).symm) ?_
  refine zy_cv [zi (zb False)] (sX10_passes (A := False) hfl hz ) dX10_restore_5 (by decide) rfl cw_RX10_220 okX10_passes rfl (Nat.le_of_ble_eq_true rfl) ⟨Nat.le_of_ble_eq_true rfl, Nat.le_of_ble_eq_true rfl, Nat.le_of_ble_eq_true rfl, Nat.le_of_ble_eq_true rfl⟩ ?_
  refine zx_if_ne (tgt := 13) (by first | exact hz _ _ | assumption | exact zr_b _ | exact zcmp_r _ _ | (unfold zr at *; omega)) dX10_restore_8 (by decide) (fun h8 => ?_) (fun h8 => ?_)
  · have h8 := zb_n.mp h8
    exact absurd (by assumption) (fun q : False => q)
  · have h8 := zb_0.mp h8
    refine zx_iconst dX10_restore_11 ?_
    refine zx_iret rfl rfl dX10_restore_12 ?_
    rw [hQ]
    refine ⟨congrArg (fun z : Int => (Sum.inl (some (zi z)) : Option zV ⊕ String)) ?_, ?_⟩
    · rfl
    exact ⟨(zOK_put hz (zr_b _)), QP_th hR, (zput_s _ _ _ _).trans (zb_t (fun q => q))⟩
set_option maxRecDepth 20000 in
set_option maxHeartbeats 2000000 in
theorem sX10_restore {l : Launch} {w : zW} (hfl : l.stackTraces = false) {σ : zS}  (hz : zOK σ) (hw : σ.1 261 7 = 1) : Sp l w mX10_restore 1 0 [zf 10 261] σ (zqv (some (zi (σ.1 263 3))) (fun τ => zOK τ ∧ mfr σ τ (fun k => k = 262) (fun i => i = 5 ∨ i = 6) ∧ τ.1 261 5 = 0 ∧ τ.1 261 6 = 0 ∧ ∀ j, j < 380 → τ.1 262 j = σ.1 263 j)) := by
  obtain ⟨Q, hQ⟩ : ∃ Q : zQ, Q = (zqv (some (zi (σ.1 263 3))) (fun τ => zOK τ ∧ mfr σ τ (fun k => k = 262) (fun i => i = 5 ∨ i = 6) ∧ τ.1 261 5 = 0 ∧ τ.1 261 6 = 0 ∧ ∀ j, j < 380 → τ.1 262 j = σ.1 263 j)) := ⟨_, rfl⟩
  rw [← hQ]
  refine zx_enter hfl (by decide) rfl 0 rfl ?_
  show zX l w mX10_restore (zMQ w 1 0 Q) 0 [zf 10 261] [] 0 σ
  refine zx_aloadN dX10_restore_0 rfl rfl ?_
  refine zx_aloadN dX10_restore_1 rfl rfl ?_
  refine zy_getI fl_RX10_466 rfl dX10_restore_2 rfl ?_
  refine zy_top (b := zb True) (hw.trans (zb_t trivial).symm) ?_
  refine zy_cv [zi (zb True)] (sX10_passes (A := True) hfl hz ) dX10_restore_5 (by decide) rfl cw_RX10_220 okX10_passes rfl (Nat.le_of_ble_eq_true rfl) ⟨Nat.le_of_ble_eq_true rfl, Nat.le_of_ble_eq_true rfl, Nat.le_of_ble_eq_true rfl, Nat.le_of_ble_eq_true rfl⟩ ?_
  refine zx_if_ne (tgt := 13) (by first | exact hz _ _ | assumption | exact zr_b _ | exact zcmp_r _ _ | (unfold zr at *; omega)) dX10_restore_8 (by decide) (fun h8 => ?_) (fun h8 => ?_)
  · have h8 := zb_n.mp h8
    refine zx_aloadN dX10_restore_13 rfl rfl ?_
    refine zy_getR (q' := 263) fl_RX10_13 rfl dX10_restore_14 rfl ?_
    refine zx_iconst dX10_restore_17 ?_
    refine zx_aloadN dX10_restore_18 rfl rfl ?_
    refine zy_getR (q' := 262) fl_RX10_7 rfl dX10_restore_19 rfl ?_
    refine zx_iconst dX10_restore_22 ?_
    refine zy_csvR [zf 29 263, zi 0, zf 29 262, zi 0] (sX10_copies_a (q := 263) (a := 0) (v := 262) (b := 0) hfl (zOK_put hz (zr_b _)) (by first | assumption | omega) (by first | assumption | omega) (by decide)) dX10_restore_23 cw_RX10_70 okX10_copies rfl (Nat.le_of_ble_eq_true rfl) ⟨Nat.le_of_ble_eq_true rfl, Nat.le_of_ble_eq_true rfl, Nat.le_of_ble_eq_true rfl, Nat.le_of_ble_eq_true rfl⟩ (fun τ23 hr23 => ?_)
    have hz23 : zOK τ23 := hr23.1
    refine zx_aloadN dX10_restore_26 rfl rfl ?_
    refine zx_iconst dX10_restore_27 ?_
    refine zx_putI fl_RX10_348 rfl (Or.inl fp_10_5) dX10_restore_28 ?_
    refine zx_aloadN dX10_restore_31 rfl rfl ?_
    refine zy_getR (q' := 262) fl_RX10_7 rfl dX10_restore_32 rfl ?_
    refine zx_iconst dX10_restore_35 ?_
    refine zy_iald (v := τ23.1 262 3) rfl (by decide) (by decide) dX10_restore_36 (by omega) (by omega) (zput_k _ _ _ _ _ (by omega)) ?_
    refine zx_iret rfl rfl dX10_restore_37 ?_
    rw [hQ]
    refine ⟨congrArg (fun z : Int => (Sum.inl (some (zi z)) : Option zV ⊕ String)) ?_, ?_⟩
    · exact (hr23.2.2.2.1 3 (by decide)).trans (zput_k σ 261 6 _ 3 (by decide))
    obtain ⟨c1, c2, c3, c4⟩ := hr23.2
    refine ⟨(zOK_put hz23 (by unfold zr; omega)), ⟨fun k hk hk2 i => ?_, fun i hi => ?_, c2⟩, zput_s _ _ _ _, ?_, fun j hj => ?_⟩
    · rw [zput_k _ _ _ _ _ hk2, c1 k hk i, zput_k _ _ _ _ _ hk2]
    · rw [zput_i _ _ _ _ _ (fun q => hi (Or.inl q)), c1 261 (by decide) i, zput_i _ _ _ _ _ (fun q => hi (Or.inr q))]
    · rw [zput_i _ _ _ _ _ (by decide), c1 261 (by decide) 6, zput_s]; exact zb_f (fun q => q trivial)
    · have := c3 j hj
      rw [Nat.zero_add] at this
      rw [zput_k _ _ _ _ _ (by decide), this, zput_k _ _ _ _ _ (by decide)]
  · have h8 := zb_0.mp h8
    exact absurd trivial (by assumption)

