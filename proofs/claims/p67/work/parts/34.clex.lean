abbrev mX6_kindOfByte : zM := (yX6_kindOfByte, cX6_kindOfByte, 1, (some .int), [])
theorem okX6_kindOfByte : zMok mX6_kindOfByte 1 := ⟨by decide, by decide, by decide +kernel⟩
theorem dX6_kindOfByte_0 : decode cX6_kindOfByte 0 = .ok (.iload_n 0, 1) := by decide +kernel
theorem dX6_kindOfByte_1 : decode cX6_kindOfByte 1 = .ok (.bipush 97, 2) := by decide +kernel
theorem dX6_kindOfByte_3 : decode cX6_kindOfByte 3 = .ok (.if_icmp .lt 11, 3) := by decide +kernel
theorem dX6_kindOfByte_14 : decode cX6_kindOfByte 14 = .ok (.iload_n 0, 1) := by decide +kernel
theorem dX6_kindOfByte_15 : decode cX6_kindOfByte 15 = .ok (.bipush 48, 2) := by decide +kernel
theorem dX6_kindOfByte_17 : decode cX6_kindOfByte 17 = .ok (.if_icmp .lt 11, 3) := by decide +kernel
theorem dX6_kindOfByte_28 : decode cX6_kindOfByte 28 = .ok (.iload_n 0, 1) := by decide +kernel
theorem dX6_kindOfByte_29 : decode cX6_kindOfByte 29 = .ok (.bipush 59, 2) := by decide +kernel
theorem dX6_kindOfByte_31 : decode cX6_kindOfByte 31 = .ok (.if_icmp .ne 7, 3) := by decide +kernel
theorem dX6_kindOfByte_38 : decode cX6_kindOfByte 38 = .ok (.iconst 4, 1) := by decide +kernel
theorem dX6_kindOfByte_39 : decode cX6_kindOfByte 39 = .ok (.ireturn, 1) := by decide +kernel
theorem dX6_kindOfByte_34 : decode cX6_kindOfByte 34 = .ok (.iconst 3, 1) := by decide +kernel
theorem dX6_kindOfByte_35 : decode cX6_kindOfByte 35 = .ok (.goto 4, 3) := by decide +kernel
theorem dX6_kindOfByte_20 : decode cX6_kindOfByte 20 = .ok (.iload_n 0, 1) := by decide +kernel
theorem dX6_kindOfByte_21 : decode cX6_kindOfByte 21 = .ok (.bipush 57, 2) := by decide +kernel
theorem dX6_kindOfByte_23 : decode cX6_kindOfByte 23 = .ok (.if_icmp .gt 5, 3) := by decide +kernel
theorem dX6_kindOfByte_26 : decode cX6_kindOfByte 26 = .ok (.iconst 2, 1) := by decide +kernel
theorem dX6_kindOfByte_27 : decode cX6_kindOfByte 27 = .ok (.ireturn, 1) := by decide +kernel
theorem dX6_kindOfByte_6 : decode cX6_kindOfByte 6 = .ok (.iload_n 0, 1) := by decide +kernel
theorem dX6_kindOfByte_7 : decode cX6_kindOfByte 7 = .ok (.bipush 122, 2) := by decide +kernel
theorem dX6_kindOfByte_9 : decode cX6_kindOfByte 9 = .ok (.if_icmp .gt 5, 3) := by decide +kernel
theorem dX6_kindOfByte_12 : decode cX6_kindOfByte 12 = .ok (.iconst 1, 1) := by decide +kernel
theorem dX6_kindOfByte_13 : decode cX6_kindOfByte 13 = .ok (.ireturn, 1) := by decide +kernel
abbrev mX6_isSound : zM := (yX6_isSound, cX6_isSound, 1, (some .boolean), [])
theorem okX6_isSound : zMok mX6_isSound 0 := ⟨by decide, by decide, by decide +kernel⟩
theorem dX6_isSound_0 : decode cX6_isSound 0 = .ok (.aload_n 0, 1) := by decide +kernel
theorem dX6_isSound_1 : decode cX6_isSound 1 = .ok (.getfield 28, 3) := by decide +kernel
theorem fl_RX6_28 : zFl RX6 28 6 5 := ⟨RX6, TX6, 7, rfl, by decide, zmem1 67 (by decide +kernel) rfl, rfl⟩
theorem dX6_isSound_4 : decode cX6_isSound 4 = .ok (.ifCond .ne 7, 3) := by decide +kernel
theorem dX6_isSound_11 : decode cX6_isSound 11 = .ok (.iconst 0, 1) := by decide +kernel
theorem dX6_isSound_12 : decode cX6_isSound 12 = .ok (.ireturn, 1) := by decide +kernel
theorem dX6_isSound_7 : decode cX6_isSound 7 = .ok (.iconst 1, 1) := by decide +kernel
theorem dX6_isSound_8 : decode cX6_isSound 8 = .ok (.goto 4, 3) := by decide +kernel
abbrev mX6_hasMore : zM := (yX6_hasMore, cX6_hasMore, 1, (some .boolean), [])
theorem okX6_hasMore : zMok mX6_hasMore 0 := ⟨by decide, by decide, by decide +kernel⟩
theorem dX6_hasMore_0 : decode cX6_hasMore 0 = .ok (.aload_n 0, 1) := by decide +kernel
theorem dX6_hasMore_1 : decode cX6_hasMore 1 = .ok (.invokevirtual 50, 3) := by decide +kernel
theorem cw_RX6_50 : zCwV RX6 50 mX6_isSound := zall [402, 403, 404, 32, 405] (by decide +kernel) (by decide +kernel)
theorem dX6_hasMore_4 : decode cX6_hasMore 4 = .ok (.ifCond .eq 14, 3) := by decide +kernel
theorem dX6_hasMore_18 : decode cX6_hasMore 18 = .ok (.iconst 0, 1) := by decide +kernel
theorem dX6_hasMore_19 : decode cX6_hasMore 19 = .ok (.ireturn, 1) := by decide +kernel
theorem dX6_hasMore_7 : decode cX6_hasMore 7 = .ok (.aload_n 0, 1) := by decide +kernel
theorem dX6_hasMore_8 : decode cX6_hasMore 8 = .ok (.getfield 19, 3) := by decide +kernel
theorem fl_RX6_19 : zFl RX6 19 6 2 := ⟨RX6, TX6, 7, rfl, by decide, zmem1 64 (by decide +kernel) rfl, rfl⟩
theorem dX6_hasMore_11 : decode cX6_hasMore 11 = .ok (.ifCond .eq 7, 3) := by decide +kernel
theorem dX6_hasMore_14 : decode cX6_hasMore 14 = .ok (.iconst 1, 1) := by decide +kernel
theorem dX6_hasMore_15 : decode cX6_hasMore 15 = .ok (.goto 4, 3) := by decide +kernel
abbrev mX6_fail : zM := (yX6_fail, cX6_fail, 2, none, [])
theorem okX6_fail : zMok mX6_fail 1 := ⟨by decide, by decide, by decide +kernel⟩
theorem dX6_fail_0 : decode cX6_fail 0 = .ok (.aload_n 0, 1) := by decide +kernel
theorem dX6_fail_1 : decode cX6_fail 1 = .ok (.invokevirtual 50, 3) := by decide +kernel
theorem dX6_fail_4 : decode cX6_fail 4 = .ok (.ifCond .eq 16, 3) := by decide +kernel
theorem dX6_fail_20 : decode cX6_fail 20 = .ok (.aload_n 0, 1) := by decide +kernel
theorem dX6_fail_21 : decode cX6_fail 21 = .ok (.iconst 4, 1) := by decide +kernel
theorem dX6_fail_22 : decode cX6_fail 22 = .ok (.putfield 19, 3) := by decide +kernel
theorem fp_6_2 : zFi 6 2 "I" := ⟨RX6, TX6, 7, rfl, rfl, rfl⟩
theorem dX6_fail_25 : decode cX6_fail 25 = .ok (.return_, 1) := by decide +kernel
theorem dX6_fail_7 : decode cX6_fail 7 = .ok (.aload_n 0, 1) := by decide +kernel
theorem dX6_fail_8 : decode cX6_fail 8 = .ok (.iload_n 1, 1) := by decide +kernel
theorem dX6_fail_9 : decode cX6_fail 9 = .ok (.putfield 28, 3) := by decide +kernel
theorem fp_6_5 : zFi 6 5 "I" := ⟨RX6, TX6, 7, rfl, rfl, rfl⟩
theorem dX6_fail_12 : decode cX6_fail 12 = .ok (.aload_n 0, 1) := by decide +kernel
theorem dX6_fail_13 : decode cX6_fail 13 = .ok (.aload_n 0, 1) := by decide +kernel
theorem dX6_fail_14 : decode cX6_fail 14 = .ok (.getfield 22, 3) := by decide +kernel
theorem fl_RX6_22 : zFl RX6 22 6 3 := ⟨RX6, TX6, 7, rfl, by decide, zmem1 65 (by decide +kernel) rfl, rfl⟩
theorem dX6_fail_17 : decode cX6_fail 17 = .ok (.putfield 31, 3) := by decide +kernel
theorem fl_RX6_31 : zFl RX6 31 6 6 := ⟨RX6, TX6, 7, rfl, by decide, zmem1 68 (by decide +kernel) rfl, rfl⟩
theorem fp_6_6 : zFi 6 6 "I" := ⟨RX6, TX6, 7, rfl, rfl, rfl⟩
abbrev mX6_takeToken : zM := (yX6_takeToken, cX6_takeToken, 2, none, [])
theorem okX6_takeToken : zMok mX6_takeToken 0 := ⟨by decide, by decide, by decide +kernel⟩
theorem dX6_takeToken_0 : decode cX6_takeToken 0 = .ok (.aload_n 0, 1) := by decide +kernel
theorem dX6_takeToken_1 : decode cX6_takeToken 1 = .ok (.getfield 25, 3) := by decide +kernel
theorem fl_RX6_25 : zFl RX6 25 6 4 := ⟨RX6, TX6, 7, rfl, by decide, zmem1 66 (by decide +kernel) rfl, rfl⟩
theorem dX6_takeToken_4 : decode cX6_takeToken 4 = .ok (.istore_n 1, 1) := by decide +kernel
theorem dX6_takeToken_5 : decode cX6_takeToken 5 = .ok (.iload_n 1, 1) := by decide +kernel
theorem dX6_takeToken_6 : decode cX6_takeToken 6 = .ok (.aload_n 0, 1) := by decide +kernel
theorem dX6_takeToken_7 : decode cX6_takeToken 7 = .ok (.getfield 15, 3) := by decide +kernel
theorem dX6_takeToken_10 : decode cX6_takeToken 10 = .ok (.if_icmp .ge 20, 3) := by decide +kernel
theorem dX6_takeToken_30 : decode cX6_takeToken 30 = .ok (.aload_n 0, 1) := by decide +kernel
theorem dX6_takeToken_31 : decode cX6_takeToken 31 = .ok (.iload_n 1, 1) := by decide +kernel
theorem dX6_takeToken_32 : decode cX6_takeToken 32 = .ok (.putfield 22, 3) := by decide +kernel
theorem fp_6_3 : zFi 6 3 "I" := ⟨RX6, TX6, 7, rfl, rfl, rfl⟩
theorem dX6_takeToken_35 : decode cX6_takeToken 35 = .ok (.aload_n 0, 1) := by decide +kernel
theorem dX6_takeToken_36 : decode cX6_takeToken 36 = .ok (.iload_n 1, 1) := by decide +kernel
theorem dX6_takeToken_37 : decode cX6_takeToken 37 = .ok (.putfield 25, 3) := by decide +kernel
theorem fp_6_4 : zFi 6 4 "I" := ⟨RX6, TX6, 7, rfl, rfl, rfl⟩
theorem dX6_takeToken_40 : decode cX6_takeToken 40 = .ok (.iload_n 1, 1) := by decide +kernel
theorem dX6_takeToken_41 : decode cX6_takeToken 41 = .ok (.aload_n 0, 1) := by decide +kernel
theorem dX6_takeToken_42 : decode cX6_takeToken 42 = .ok (.getfield 15, 3) := by decide +kernel
theorem dX6_takeToken_45 : decode cX6_takeToken 45 = .ok (.if_icmp .lt 9, 3) := by decide +kernel
theorem dX6_takeToken_54 : decode cX6_takeToken 54 = .ok (.aload_n 0, 1) := by decide +kernel
theorem dX6_takeToken_55 : decode cX6_takeToken 55 = .ok (.aload_n 0, 1) := by decide +kernel
theorem dX6_takeToken_56 : decode cX6_takeToken 56 = .ok (.getfield 9, 3) := by decide +kernel
theorem dX6_takeToken_59 : decode cX6_takeToken 59 = .ok (.iload_n 1, 1) := by decide +kernel
theorem dX6_takeToken_60 : decode cX6_takeToken 60 = .ok (.baload, 1) := by decide +kernel
theorem dX6_takeToken_61 : decode cX6_takeToken 61 = .ok (.invokestatic 54, 3) := by decide +kernel
theorem cw_RX6_54 : zCwS RX6 54 mX6_kindOfByte := zall [395, 396, 32, 397] (by decide +kernel) (by decide +kernel)
theorem dX6_takeToken_64 : decode cX6_takeToken 64 = .ok (.putfield 19, 3) := by decide +kernel
theorem dX6_takeToken_67 : decode cX6_takeToken 67 = .ok (.aload_n 0, 1) := by decide +kernel
theorem dX6_takeToken_68 : decode cX6_takeToken 68 = .ok (.dup, 1) := by decide +kernel
theorem dX6_takeToken_69 : decode cX6_takeToken 69 = .ok (.getfield 25, 3) := by decide +kernel
theorem dX6_takeToken_72 : decode cX6_takeToken 72 = .ok (.iconst 1, 1) := by decide +kernel
theorem dX6_takeToken_73 : decode cX6_takeToken 73 = .ok (.iadd, 1) := by decide +kernel
theorem dX6_takeToken_74 : decode cX6_takeToken 74 = .ok (.putfield 25, 3) := by decide +kernel
theorem dX6_takeToken_77 : decode cX6_takeToken 77 = .ok (.aload_n 0, 1) := by decide +kernel
theorem dX6_takeToken_78 : decode cX6_takeToken 78 = .ok (.getfield 19, 3) := by decide +kernel
theorem dX6_takeToken_81 : decode cX6_takeToken 81 = .ok (.iconst 1, 1) := by decide +kernel
theorem dX6_takeToken_82 : decode cX6_takeToken 82 = .ok (.if_icmp .eq 11, 3) := by decide +kernel
theorem dX6_takeToken_93 : decode cX6_takeToken 93 = .ok (.aload_n 0, 1) := by decide +kernel
theorem dX6_takeToken_94 : decode cX6_takeToken 94 = .ok (.getfield 25, 3) := by decide +kernel
theorem dX6_takeToken_97 : decode cX6_takeToken 97 = .ok (.aload_n 0, 1) := by decide +kernel
theorem dX6_takeToken_98 : decode cX6_takeToken 98 = .ok (.getfield 15, 3) := by decide +kernel
theorem dX6_takeToken_101 : decode cX6_takeToken 101 = .ok (.if_icmp .ge 35, 3) := by decide +kernel
theorem dX6_takeToken_136 : decode cX6_takeToken 136 = .ok (.return_, 1) := by decide +kernel
theorem dX6_takeToken_104 : decode cX6_takeToken 104 = .ok (.aload_n 0, 1) := by decide +kernel
theorem dX6_takeToken_105 : decode cX6_takeToken 105 = .ok (.getfield 9, 3) := by decide +kernel
theorem dX6_takeToken_108 : decode cX6_takeToken 108 = .ok (.aload_n 0, 1) := by decide +kernel
theorem dX6_takeToken_109 : decode cX6_takeToken 109 = .ok (.getfield 25, 3) := by decide +kernel
theorem dX6_takeToken_112 : decode cX6_takeToken 112 = .ok (.baload, 1) := by decide +kernel
theorem dX6_takeToken_113 : decode cX6_takeToken 113 = .ok (.invokestatic 54, 3) := by decide +kernel
theorem dX6_takeToken_116 : decode cX6_takeToken 116 = .ok (.aload_n 0, 1) := by decide +kernel
theorem dX6_takeToken_117 : decode cX6_takeToken 117 = .ok (.getfield 19, 3) := by decide +kernel
theorem dX6_takeToken_120 : decode cX6_takeToken 120 = .ok (.if_icmp .ne 16, 3) := by decide +kernel
theorem dX6_takeToken_123 : decode cX6_takeToken 123 = .ok (.aload_n 0, 1) := by decide +kernel
theorem dX6_takeToken_124 : decode cX6_takeToken 124 = .ok (.dup, 1) := by decide +kernel
theorem dX6_takeToken_125 : decode cX6_takeToken 125 = .ok (.getfield 25, 3) := by decide +kernel
theorem dX6_takeToken_128 : decode cX6_takeToken 128 = .ok (.iconst 1, 1) := by decide +kernel
theorem dX6_takeToken_129 : decode cX6_takeToken 129 = .ok (.iadd, 1) := by decide +kernel
theorem dX6_takeToken_130 : decode cX6_takeToken 130 = .ok (.putfield 25, 3) := by decide +kernel
theorem dX6_takeToken_133 : decode cX6_takeToken 133 = .ok (.goto (-40), 3) := by decide +kernel
theorem dX6_takeToken_85 : decode cX6_takeToken 85 = .ok (.aload_n 0, 1) := by decide +kernel
theorem dX6_takeToken_86 : decode cX6_takeToken 86 = .ok (.getfield 19, 3) := by decide +kernel
theorem dX6_takeToken_89 : decode cX6_takeToken 89 = .ok (.iconst 2, 1) := by decide +kernel
theorem dX6_takeToken_90 : decode cX6_takeToken 90 = .ok (.if_icmp .ne 46, 3) := by decide +kernel
theorem dX6_takeToken_48 : decode cX6_takeToken 48 = .ok (.aload_n 0, 1) := by decide +kernel
theorem dX6_takeToken_49 : decode cX6_takeToken 49 = .ok (.iconst 0, 1) := by decide +kernel
theorem dX6_takeToken_50 : decode cX6_takeToken 50 = .ok (.putfield 19, 3) := by decide +kernel
theorem dX6_takeToken_53 : decode cX6_takeToken 53 = .ok (.return_, 1) := by decide +kernel
theorem dX6_takeToken_13 : decode cX6_takeToken 13 = .ok (.aload_n 0, 1) := by decide +kernel
theorem dX6_takeToken_14 : decode cX6_takeToken 14 = .ok (.getfield 9, 3) := by decide +kernel
theorem dX6_takeToken_17 : decode cX6_takeToken 17 = .ok (.iload_n 1, 1) := by decide +kernel
theorem dX6_takeToken_18 : decode cX6_takeToken 18 = .ok (.baload, 1) := by decide +kernel
theorem dX6_takeToken_19 : decode cX6_takeToken 19 = .ok (.bipush 32, 2) := by decide +kernel
theorem dX6_takeToken_21 : decode cX6_takeToken 21 = .ok (.if_icmp .ne 9, 3) := by decide +kernel
theorem dX6_takeToken_24 : decode cX6_takeToken 24 = .ok (.iinc 1 1, 3) := by decide +kernel
theorem dX6_takeToken_27 : decode cX6_takeToken 27 = .ok (.goto (-22), 3) := by decide +kernel
abbrev mX6_startParsing : zM := (yX6_startParsing, cX6_startParsing, 1, none, [])
theorem okX6_startParsing : zMok mX6_startParsing 0 := ⟨by decide, by decide, by decide +kernel⟩
theorem dX6_startParsing_0 : decode cX6_startParsing 0 = .ok (.aload_n 0, 1) := by decide +kernel
theorem dX6_startParsing_1 : decode cX6_startParsing 1 = .ok (.iconst 0, 1) := by decide +kernel
theorem dX6_startParsing_2 : decode cX6_startParsing 2 = .ok (.putfield 25, 3) := by decide +kernel
theorem dX6_startParsing_5 : decode cX6_startParsing 5 = .ok (.aload_n 0, 1) := by decide +kernel
theorem dX6_startParsing_6 : decode cX6_startParsing 6 = .ok (.iconst 0, 1) := by decide +kernel
theorem dX6_startParsing_7 : decode cX6_startParsing 7 = .ok (.putfield 28, 3) := by decide +kernel
theorem dX6_startParsing_10 : decode cX6_startParsing 10 = .ok (.aload_n 0, 1) := by decide +kernel
theorem dX6_startParsing_11 : decode cX6_startParsing 11 = .ok (.iconst (-1), 1) := by decide +kernel
theorem dX6_startParsing_12 : decode cX6_startParsing 12 = .ok (.putfield 31, 3) := by decide +kernel
theorem dX6_startParsing_15 : decode cX6_startParsing 15 = .ok (.aload_n 0, 1) := by decide +kernel
theorem dX6_startParsing_16 : decode cX6_startParsing 16 = .ok (.invokevirtual 47, 3) := by decide +kernel
theorem cw_RX6_47 : zCwV RX6 47 mX6_takeToken := zall [391, 392, 393, 32, 394] (by decide +kernel) (by decide +kernel)
theorem dX6_startParsing_19 : decode cX6_startParsing 19 = .ok (.return_, 1) := by decide +kernel
abbrev mX6_isAt : zM := (yX6_isAt, cX6_isAt, 3, (some .boolean), [])
theorem okX6_isAt : zMok mX6_isAt 1 := ⟨by decide, by decide, by decide +kernel⟩
theorem dX6_isAt_0 : decode cX6_isAt 0 = .ok (.aload_n 0, 1) := by decide +kernel
theorem dX6_isAt_1 : decode cX6_isAt 1 = .ok (.getfield 19, 3) := by decide +kernel
theorem dX6_isAt_4 : decode cX6_isAt 4 = .ok (.iconst 1, 1) := by decide +kernel
theorem dX6_isAt_5 : decode cX6_isAt 5 = .ok (.if_icmp .ne 19, 3) := by decide +kernel
theorem dX6_isAt_24 : decode cX6_isAt 24 = .ok (.iconst 0, 1) := by decide +kernel
theorem dX6_isAt_25 : decode cX6_isAt 25 = .ok (.ireturn, 1) := by decide +kernel
theorem dX6_isAt_8 : decode cX6_isAt 8 = .ok (.aload_n 0, 1) := by decide +kernel
theorem dX6_isAt_9 : decode cX6_isAt 9 = .ok (.getfield 25, 3) := by decide +kernel
theorem dX6_isAt_12 : decode cX6_isAt 12 = .ok (.aload_n 0, 1) := by decide +kernel
theorem dX6_isAt_13 : decode cX6_isAt 13 = .ok (.getfield 22, 3) := by decide +kernel
theorem dX6_isAt_16 : decode cX6_isAt 16 = .ok (.isub, 1) := by decide +kernel
theorem dX6_isAt_17 : decode cX6_isAt 17 = .ok (.aload_n 1, 1) := by decide +kernel
theorem dX6_isAt_18 : decode cX6_isAt 18 = .ok (.invokevirtual 38, 3) := by decide +kernel
theorem cw_RX6_38 : zCwV RX6 38 mJ0_length_8abf5 := zall [317, 318, 319, 22, 320] (by decide +kernel) (by decide +kernel)
theorem dX6_isAt_21 : decode cX6_isAt 21 = .ok (.if_icmp .eq 5, 3) := by decide +kernel
theorem dX6_isAt_26 : decode cX6_isAt 26 = .ok (.iconst 0, 1) := by decide +kernel
theorem dX6_isAt_27 : decode cX6_isAt 27 = .ok (.istore_n 2, 1) := by decide +kernel
theorem dX6_isAt_28 : decode cX6_isAt 28 = .ok (.iload_n 2, 1) := by decide +kernel
theorem dX6_isAt_29 : decode cX6_isAt 29 = .ok (.aload_n 1, 1) := by decide +kernel
theorem dX6_isAt_30 : decode cX6_isAt 30 = .ok (.invokevirtual 38, 3) := by decide +kernel
theorem dX6_isAt_33 : decode cX6_isAt 33 = .ok (.if_icmp .ge 30, 3) := by decide +kernel
theorem dX6_isAt_63 : decode cX6_isAt 63 = .ok (.iconst 1, 1) := by decide +kernel
theorem dX6_isAt_64 : decode cX6_isAt 64 = .ok (.ireturn, 1) := by decide +kernel
theorem dX6_isAt_36 : decode cX6_isAt 36 = .ok (.aload_n 0, 1) := by decide +kernel
theorem dX6_isAt_37 : decode cX6_isAt 37 = .ok (.getfield 9, 3) := by decide +kernel
theorem dX6_isAt_40 : decode cX6_isAt 40 = .ok (.aload_n 0, 1) := by decide +kernel
theorem dX6_isAt_41 : decode cX6_isAt 41 = .ok (.getfield 22, 3) := by decide +kernel
theorem dX6_isAt_44 : decode cX6_isAt 44 = .ok (.iload_n 2, 1) := by decide +kernel
theorem dX6_isAt_45 : decode cX6_isAt 45 = .ok (.iadd, 1) := by decide +kernel
theorem dX6_isAt_46 : decode cX6_isAt 46 = .ok (.baload, 1) := by decide +kernel
theorem dX6_isAt_47 : decode cX6_isAt 47 = .ok (.aload_n 1, 1) := by decide +kernel
theorem dX6_isAt_48 : decode cX6_isAt 48 = .ok (.iload_n 2, 1) := by decide +kernel
theorem dX6_isAt_49 : decode cX6_isAt 49 = .ok (.invokevirtual 43, 3) := by decide +kernel
theorem cw_RX6_43 : zCwV RX6 43 mJ0_charAt_5068e := zall [327, 328, 329, 22, 330] (by decide +kernel) (by decide +kernel)
theorem dX6_isAt_52 : decode cX6_isAt 52 = .ok (.if_icmp .eq 5, 3) := by decide +kernel
theorem dX6_isAt_57 : decode cX6_isAt 57 = .ok (.iinc 2 1, 3) := by decide +kernel
theorem dX6_isAt_60 : decode cX6_isAt 60 = .ok (.goto (-32), 3) := by decide +kernel
theorem dX6_isAt_55 : decode cX6_isAt 55 = .ok (.iconst 0, 1) := by decide +kernel
theorem dX6_isAt_56 : decode cX6_isAt 56 = .ok (.ireturn, 1) := by decide +kernel
abbrev mX6_takeNumber : zM := (yX6_takeNumber, cX6_takeNumber, 5, (some .int), [])
theorem okX6_takeNumber : zMok mX6_takeNumber 2 := ⟨by decide, by decide, by decide +kernel⟩
theorem dX6_takeNumber_0 : decode cX6_takeNumber 0 = .ok (.aload_n 0, 1) := by decide +kernel
theorem dX6_takeNumber_1 : decode cX6_takeNumber 1 = .ok (.getfield 19, 3) := by decide +kernel
theorem dX6_takeNumber_4 : decode cX6_takeNumber 4 = .ok (.iconst 2, 1) := by decide +kernel
theorem dX6_takeNumber_5 : decode cX6_takeNumber 5 = .ok (.if_icmp .ne 16, 3) := by decide +kernel
theorem dX6_takeNumber_21 : decode cX6_takeNumber 21 = .ok (.aload_n 0, 1) := by decide +kernel
theorem dX6_takeNumber_22 : decode cX6_takeNumber 22 = .ok (.iconst 1, 1) := by decide +kernel
theorem dX6_takeNumber_23 : decode cX6_takeNumber 23 = .ok (.invokevirtual 58, 3) := by decide +kernel
theorem cw_RX6_58 : zCwV RX6 58 mX6_fail := zall [452, 423, 424, 32, 425] (by decide +kernel) (by decide +kernel)
theorem dX6_takeNumber_26 : decode cX6_takeNumber 26 = .ok (.iconst 0, 1) := by decide +kernel
theorem dX6_takeNumber_27 : decode cX6_takeNumber 27 = .ok (.ireturn, 1) := by decide +kernel
theorem dX6_takeNumber_8 : decode cX6_takeNumber 8 = .ok (.aload_n 0, 1) := by decide +kernel
theorem dX6_takeNumber_9 : decode cX6_takeNumber 9 = .ok (.getfield 25, 3) := by decide +kernel
theorem dX6_takeNumber_12 : decode cX6_takeNumber 12 = .ok (.aload_n 0, 1) := by decide +kernel
theorem dX6_takeNumber_13 : decode cX6_takeNumber 13 = .ok (.getfield 22, 3) := by decide +kernel
theorem dX6_takeNumber_16 : decode cX6_takeNumber 16 = .ok (.isub, 1) := by decide +kernel
theorem dX6_takeNumber_17 : decode cX6_takeNumber 17 = .ok (.iconst 4, 1) := by decide +kernel
theorem dX6_takeNumber_18 : decode cX6_takeNumber 18 = .ok (.if_icmp .le 10, 3) := by decide +kernel
theorem dX6_takeNumber_28 : decode cX6_takeNumber 28 = .ok (.iconst 0, 1) := by decide +kernel
theorem dX6_takeNumber_29 : decode cX6_takeNumber 29 = .ok (.istore_n 3, 1) := by decide +kernel
theorem dX6_takeNumber_30 : decode cX6_takeNumber 30 = .ok (.aload_n 0, 1) := by decide +kernel
theorem dX6_takeNumber_31 : decode cX6_takeNumber 31 = .ok (.getfield 22, 3) := by decide +kernel
theorem dX6_takeNumber_34 : decode cX6_takeNumber 34 = .ok (.istore 4, 2) := by decide +kernel
theorem dX6_takeNumber_36 : decode cX6_takeNumber 36 = .ok (.iload 4, 2) := by decide +kernel
theorem dX6_takeNumber_38 : decode cX6_takeNumber 38 = .ok (.aload_n 0, 1) := by decide +kernel
theorem dX6_takeNumber_39 : decode cX6_takeNumber 39 = .ok (.getfield 25, 3) := by decide +kernel
theorem dX6_takeNumber_42 : decode cX6_takeNumber 42 = .ok (.if_icmp .ge 25, 3) := by decide +kernel
theorem dX6_takeNumber_67 : decode cX6_takeNumber 67 = .ok (.iload_n 3, 1) := by decide +kernel
theorem dX6_takeNumber_68 : decode cX6_takeNumber 68 = .ok (.iload_n 1, 1) := by decide +kernel
theorem dX6_takeNumber_69 : decode cX6_takeNumber 69 = .ok (.iload_n 2, 1) := by decide +kernel
theorem dX6_takeNumber_70 : decode cX6_takeNumber 70 = .ok (.invokestatic 61, 3) := by decide +kernel
theorem cw_RX6_61 : zCwN RX6 61 mX9_isWithin := ⟨⟨_, List.mem_of_getElem? (i := 11) rfl⟩, zall [420, 31, 421] (by decide +kernel) (by decide +kernel)⟩
theorem dX6_takeNumber_73 : decode cX6_takeNumber 73 = .ok (.ifCond .ne 10, 3) := by decide +kernel
theorem dX6_takeNumber_83 : decode cX6_takeNumber 83 = .ok (.aload_n 0, 1) := by decide +kernel
theorem dX6_takeNumber_84 : decode cX6_takeNumber 84 = .ok (.invokevirtual 47, 3) := by decide +kernel
theorem dX6_takeNumber_87 : decode cX6_takeNumber 87 = .ok (.iload_n 3, 1) := by decide +kernel
theorem dX6_takeNumber_88 : decode cX6_takeNumber 88 = .ok (.ireturn, 1) := by decide +kernel
theorem dX6_takeNumber_76 : decode cX6_takeNumber 76 = .ok (.aload_n 0, 1) := by decide +kernel
theorem dX6_takeNumber_77 : decode cX6_takeNumber 77 = .ok (.iconst 2, 1) := by decide +kernel
theorem dX6_takeNumber_78 : decode cX6_takeNumber 78 = .ok (.invokevirtual 58, 3) := by decide +kernel
theorem dX6_takeNumber_81 : decode cX6_takeNumber 81 = .ok (.iconst 0, 1) := by decide +kernel
theorem dX6_takeNumber_82 : decode cX6_takeNumber 82 = .ok (.ireturn, 1) := by decide +kernel
theorem dX6_takeNumber_45 : decode cX6_takeNumber 45 = .ok (.bipush 10, 2) := by decide +kernel
theorem dX6_takeNumber_47 : decode cX6_takeNumber 47 = .ok (.iload_n 3, 1) := by decide +kernel
theorem dX6_takeNumber_48 : decode cX6_takeNumber 48 = .ok (.imul, 1) := by decide +kernel
theorem dX6_takeNumber_49 : decode cX6_takeNumber 49 = .ok (.aload_n 0, 1) := by decide +kernel
theorem dX6_takeNumber_50 : decode cX6_takeNumber 50 = .ok (.getfield 9, 3) := by decide +kernel
theorem dX6_takeNumber_53 : decode cX6_takeNumber 53 = .ok (.iload 4, 2) := by decide +kernel
theorem dX6_takeNumber_55 : decode cX6_takeNumber 55 = .ok (.baload, 1) := by decide +kernel
theorem dX6_takeNumber_56 : decode cX6_takeNumber 56 = .ok (.iadd, 1) := by decide +kernel
theorem dX6_takeNumber_57 : decode cX6_takeNumber 57 = .ok (.bipush 48, 2) := by decide +kernel
theorem dX6_takeNumber_59 : decode cX6_takeNumber 59 = .ok (.isub, 1) := by decide +kernel
theorem dX6_takeNumber_60 : decode cX6_takeNumber 60 = .ok (.istore_n 3, 1) := by decide +kernel
theorem dX6_takeNumber_61 : decode cX6_takeNumber 61 = .ok (.iinc 4 1, 3) := by decide +kernel
theorem dX6_takeNumber_64 : decode cX6_takeNumber 64 = .ok (.goto (-28), 3) := by decide +kernel
abbrev mX6_takeSemicolon : zM := (yX6_takeSemicolon, cX6_takeSemicolon, 1, (some .boolean), [])
theorem okX6_takeSemicolon : zMok mX6_takeSemicolon 0 := ⟨by decide, by decide, by decide +kernel⟩
theorem dX6_takeSemicolon_0 : decode cX6_takeSemicolon 0 = .ok (.aload_n 0, 1) := by decide +kernel
theorem dX6_takeSemicolon_1 : decode cX6_takeSemicolon 1 = .ok (.getfield 19, 3) := by decide +kernel
theorem dX6_takeSemicolon_4 : decode cX6_takeSemicolon 4 = .ok (.iconst 3, 1) := by decide +kernel
theorem dX6_takeSemicolon_5 : decode cX6_takeSemicolon 5 = .ok (.if_icmp .ne 10, 3) := by decide +kernel
theorem dX6_takeSemicolon_15 : decode cX6_takeSemicolon 15 = .ok (.aload_n 0, 1) := by decide +kernel
theorem dX6_takeSemicolon_16 : decode cX6_takeSemicolon 16 = .ok (.iconst 1, 1) := by decide +kernel
theorem dX6_takeSemicolon_17 : decode cX6_takeSemicolon 17 = .ok (.invokevirtual 58, 3) := by decide +kernel
theorem dX6_takeSemicolon_20 : decode cX6_takeSemicolon 20 = .ok (.aload_n 0, 1) := by decide +kernel
theorem dX6_takeSemicolon_21 : decode cX6_takeSemicolon 21 = .ok (.invokevirtual 50, 3) := by decide +kernel
theorem dX6_takeSemicolon_24 : decode cX6_takeSemicolon 24 = .ok (.ireturn, 1) := by decide +kernel
theorem dX6_takeSemicolon_8 : decode cX6_takeSemicolon 8 = .ok (.aload_n 0, 1) := by decide +kernel
theorem dX6_takeSemicolon_9 : decode cX6_takeSemicolon 9 = .ok (.invokevirtual 47, 3) := by decide +kernel
theorem dX6_takeSemicolon_12 : decode cX6_takeSemicolon 12 = .ok (.goto 8, 3) := by decide +kernel
abbrev mX6_takeKind : zM := (yX6_takeKind, cX6_takeKind, 2, (some .int), [])
theorem okX6_takeKind : zMok mX6_takeKind 0 := ⟨by decide, by decide, by decide +kernel⟩
theorem dX6_takeKind_0 : decode cX6_takeKind 0 = .ok (.iconst (-1), 1) := by decide +kernel
theorem dX6_takeKind_1 : decode cX6_takeKind 1 = .ok (.istore_n 1, 1) := by decide +kernel
theorem dX6_takeKind_2 : decode cX6_takeKind 2 = .ok (.aload_n 0, 1) := by decide +kernel
theorem dX6_takeKind_3 : decode cX6_takeKind 3 = .ok (.ldc 65, 2) := by decide +kernel
theorem dX6_takeKind_5 : decode cX6_takeKind 5 = .ok (.invokevirtual 67, 3) := by decide +kernel
theorem cw_RX6_67 : zCwV RX6 67 mX6_isAt := zall [486, 411, 412, 32, 413] (by decide +kernel) (by decide +kernel)
theorem dX6_takeKind_8 : decode cX6_takeKind 8 = .ok (.ifCond .eq 8, 3) := by decide +kernel
theorem dX6_takeKind_16 : decode cX6_takeKind 16 = .ok (.aload_n 0, 1) := by decide +kernel
theorem dX6_takeKind_17 : decode cX6_takeKind 17 = .ok (.ldc 71, 2) := by decide +kernel
theorem dX6_takeKind_19 : decode cX6_takeKind 19 = .ok (.invokevirtual 67, 3) := by decide +kernel
theorem dX6_takeKind_22 : decode cX6_takeKind 22 = .ok (.ifCond .eq 8, 3) := by decide +kernel
theorem dX6_takeKind_30 : decode cX6_takeKind 30 = .ok (.aload_n 0, 1) := by decide +kernel
theorem dX6_takeKind_31 : decode cX6_takeKind 31 = .ok (.ldc 73, 2) := by decide +kernel
theorem dX6_takeKind_33 : decode cX6_takeKind 33 = .ok (.invokevirtual 67, 3) := by decide +kernel
theorem dX6_takeKind_36 : decode cX6_takeKind 36 = .ok (.ifCond .eq 8, 3) := by decide +kernel
theorem dX6_takeKind_44 : decode cX6_takeKind 44 = .ok (.aload_n 0, 1) := by decide +kernel
theorem dX6_takeKind_45 : decode cX6_takeKind 45 = .ok (.ldc 75, 2) := by decide +kernel
theorem dX6_takeKind_47 : decode cX6_takeKind 47 = .ok (.invokevirtual 67, 3) := by decide +kernel
theorem dX6_takeKind_50 : decode cX6_takeKind 50 = .ok (.ifCond .eq 8, 3) := by decide +kernel
theorem dX6_takeKind_58 : decode cX6_takeKind 58 = .ok (.aload_n 0, 1) := by decide +kernel
theorem dX6_takeKind_59 : decode cX6_takeKind 59 = .ok (.ldc 77, 2) := by decide +kernel
theorem dX6_takeKind_61 : decode cX6_takeKind 61 = .ok (.invokevirtual 67, 3) := by decide +kernel
theorem dX6_takeKind_64 : decode cX6_takeKind 64 = .ok (.ifCond .eq 5, 3) := by decide +kernel
theorem dX6_takeKind_69 : decode cX6_takeKind 69 = .ok (.iload_n 1, 1) := by decide +kernel
theorem dX6_takeKind_70 : decode cX6_takeKind 70 = .ok (.iconst (-1), 1) := by decide +kernel
theorem dX6_takeKind_71 : decode cX6_takeKind 71 = .ok (.if_icmp .ne 11, 3) := by decide +kernel
theorem dX6_takeKind_74 : decode cX6_takeKind 74 = .ok (.aload_n 0, 1) := by decide +kernel
theorem dX6_takeKind_75 : decode cX6_takeKind 75 = .ok (.iconst 1, 1) := by decide +kernel
theorem dX6_takeKind_76 : decode cX6_takeKind 76 = .ok (.invokevirtual 58, 3) := by decide +kernel
theorem dX6_takeKind_79 : decode cX6_takeKind 79 = .ok (.goto 7, 3) := by decide +kernel
theorem dX6_takeKind_86 : decode cX6_takeKind 86 = .ok (.iload_n 1, 1) := by decide +kernel
theorem dX6_takeKind_87 : decode cX6_takeKind 87 = .ok (.ireturn, 1) := by decide +kernel
theorem dX6_takeKind_67 : decode cX6_takeKind 67 = .ok (.iconst 4, 1) := by decide +kernel
theorem dX6_takeKind_68 : decode cX6_takeKind 68 = .ok (.istore_n 1, 1) := by decide +kernel
theorem dX6_takeKind_82 : decode cX6_takeKind 82 = .ok (.aload_n 0, 1) := by decide +kernel
theorem dX6_takeKind_83 : decode cX6_takeKind 83 = .ok (.invokevirtual 47, 3) := by decide +kernel
theorem dX6_takeKind_53 : decode cX6_takeKind 53 = .ok (.iconst 3, 1) := by decide +kernel
theorem dX6_takeKind_54 : decode cX6_takeKind 54 = .ok (.istore_n 1, 1) := by decide +kernel
theorem dX6_takeKind_55 : decode cX6_takeKind 55 = .ok (.goto 14, 3) := by decide +kernel
theorem dX6_takeKind_39 : decode cX6_takeKind 39 = .ok (.iconst 2, 1) := by decide +kernel
theorem dX6_takeKind_40 : decode cX6_takeKind 40 = .ok (.istore_n 1, 1) := by decide +kernel
theorem dX6_takeKind_41 : decode cX6_takeKind 41 = .ok (.goto 28, 3) := by decide +kernel
theorem dX6_takeKind_25 : decode cX6_takeKind 25 = .ok (.iconst 1, 1) := by decide +kernel
theorem dX6_takeKind_26 : decode cX6_takeKind 26 = .ok (.istore_n 1, 1) := by decide +kernel
theorem dX6_takeKind_27 : decode cX6_takeKind 27 = .ok (.goto 42, 3) := by decide +kernel
theorem dX6_takeKind_11 : decode cX6_takeKind 11 = .ok (.iconst 0, 1) := by decide +kernel
theorem dX6_takeKind_12 : decode cX6_takeKind 12 = .ok (.istore_n 1, 1) := by decide +kernel
theorem dX6_takeKind_13 : decode cX6_takeKind 13 = .ok (.goto 56, 3) := by decide +kernel
abbrev mX6_packedName : zM := (yX6_packedName, cX6_packedName, 5, (some .int), [])
theorem okX6_packedName : zMok mX6_packedName 2 := ⟨by decide, by decide, by decide +kernel⟩
theorem dX6_packedName_0 : decode cX6_packedName 0 = .ok (.iload_n 1, 1) := by decide +kernel
theorem dX6_packedName_1 : decode cX6_packedName 1 = .ok (.ifCond .lt 23, 3) := by decide +kernel
theorem dX6_packedName_24 : decode cX6_packedName 24 = .ok (.iconst 0, 1) := by decide +kernel
theorem dX6_packedName_25 : decode cX6_packedName 25 = .ok (.ireturn, 1) := by decide +kernel
theorem dX6_packedName_4 : decode cX6_packedName 4 = .ok (.iload_n 2, 1) := by decide +kernel
theorem dX6_packedName_5 : decode cX6_packedName 5 = .ok (.aload_n 0, 1) := by decide +kernel
theorem dX6_packedName_6 : decode cX6_packedName 6 = .ok (.getfield 15, 3) := by decide +kernel
theorem dX6_packedName_9 : decode cX6_packedName 9 = .ok (.if_icmp .gt 15, 3) := by decide +kernel
theorem dX6_packedName_12 : decode cX6_packedName 12 = .ok (.iload_n 2, 1) := by decide +kernel
theorem dX6_packedName_13 : decode cX6_packedName 13 = .ok (.iload_n 1, 1) := by decide +kernel
theorem dX6_packedName_14 : decode cX6_packedName 14 = .ok (.isub, 1) := by decide +kernel
theorem dX6_packedName_15 : decode cX6_packedName 15 = .ok (.iconst 1, 1) := by decide +kernel
theorem dX6_packedName_16 : decode cX6_packedName 16 = .ok (.bipush 6, 2) := by decide +kernel
theorem dX6_packedName_18 : decode cX6_packedName 18 = .ok (.invokestatic 61, 3) := by decide +kernel
theorem dX6_packedName_21 : decode cX6_packedName 21 = .ok (.ifCond .ne 5, 3) := by decide +kernel
theorem dX6_packedName_26 : decode cX6_packedName 26 = .ok (.iconst 0, 1) := by decide +kernel
theorem dX6_packedName_27 : decode cX6_packedName 27 = .ok (.istore_n 3, 1) := by decide +kernel
theorem dX6_packedName_28 : decode cX6_packedName 28 = .ok (.iload_n 1, 1) := by decide +kernel
theorem dX6_packedName_29 : decode cX6_packedName 29 = .ok (.istore 4, 2) := by decide +kernel
theorem dX6_packedName_31 : decode cX6_packedName 31 = .ok (.iload 4, 2) := by decide +kernel
theorem dX6_packedName_33 : decode cX6_packedName 33 = .ok (.iload_n 2, 1) := by decide +kernel
theorem dX6_packedName_34 : decode cX6_packedName 34 = .ok (.if_icmp .ge 42, 3) := by decide +kernel
theorem dX6_packedName_76 : decode cX6_packedName 76 = .ok (.iload_n 3, 1) := by decide +kernel
theorem dX6_packedName_77 : decode cX6_packedName 77 = .ok (.ireturn, 1) := by decide +kernel
theorem dX6_packedName_37 : decode cX6_packedName 37 = .ok (.aload_n 0, 1) := by decide +kernel
theorem dX6_packedName_38 : decode cX6_packedName 38 = .ok (.getfield 9, 3) := by decide +kernel
theorem dX6_packedName_41 : decode cX6_packedName 41 = .ok (.iload 4, 2) := by decide +kernel
theorem dX6_packedName_43 : decode cX6_packedName 43 = .ok (.baload, 1) := by decide +kernel
theorem dX6_packedName_44 : decode cX6_packedName 44 = .ok (.invokestatic 54, 3) := by decide +kernel
theorem dX6_packedName_47 : decode cX6_packedName 47 = .ok (.iconst 1, 1) := by decide +kernel
theorem dX6_packedName_48 : decode cX6_packedName 48 = .ok (.if_icmp .eq 5, 3) := by decide +kernel
theorem dX6_packedName_53 : decode cX6_packedName 53 = .ok (.iload_n 3, 1) := by decide +kernel
theorem dX6_packedName_54 : decode cX6_packedName 54 = .ok (.iconst 5, 1) := by decide +kernel
theorem dX6_packedName_55 : decode cX6_packedName 55 = .ok (.ishl, 1) := by decide +kernel
theorem dX6_packedName_56 : decode cX6_packedName 56 = .ok (.aload_n 0, 1) := by decide +kernel
theorem dX6_packedName_57 : decode cX6_packedName 57 = .ok (.getfield 9, 3) := by decide +kernel
theorem dX6_packedName_60 : decode cX6_packedName 60 = .ok (.iload 4, 2) := by decide +kernel
theorem dX6_packedName_62 : decode cX6_packedName 62 = .ok (.baload, 1) := by decide +kernel
theorem dX6_packedName_63 : decode cX6_packedName 63 = .ok (.bipush 97, 2) := by decide +kernel
theorem dX6_packedName_65 : decode cX6_packedName 65 = .ok (.isub, 1) := by decide +kernel
theorem dX6_packedName_66 : decode cX6_packedName 66 = .ok (.iconst 1, 1) := by decide +kernel
theorem dX6_packedName_67 : decode cX6_packedName 67 = .ok (.iadd, 1) := by decide +kernel
theorem dX6_packedName_68 : decode cX6_packedName 68 = .ok (.ior, 1) := by decide +kernel
theorem dX6_packedName_69 : decode cX6_packedName 69 = .ok (.istore_n 3, 1) := by decide +kernel
theorem dX6_packedName_70 : decode cX6_packedName 70 = .ok (.iinc 4 1, 3) := by decide +kernel
theorem dX6_packedName_73 : decode cX6_packedName 73 = .ok (.goto (-42), 3) := by decide +kernel
theorem dX6_packedName_51 : decode cX6_packedName 51 = .ok (.iconst 0, 1) := by decide +kernel
theorem dX6_packedName_52 : decode cX6_packedName 52 = .ok (.ireturn, 1) := by decide +kernel
abbrev mX6_takeNewName : zM := (yX6_takeNewName, cX6_takeNewName, 3, (some .int), [])
theorem okX6_takeNewName : zMok mX6_takeNewName 1 := ⟨by decide, by decide, by decide +kernel⟩
theorem dX6_takeNewName_0 : decode cX6_takeNewName 0 = .ok (.aload_n 0, 1) := by decide +kernel
theorem dX6_takeNewName_1 : decode cX6_takeNewName 1 = .ok (.getfield 19, 3) := by decide +kernel
theorem dX6_takeNewName_4 : decode cX6_takeNewName 4 = .ok (.iconst 1, 1) := by decide +kernel
theorem dX6_takeNewName_5 : decode cX6_takeNewName 5 = .ok (.if_icmp .ne 18, 3) := by decide +kernel
theorem dX6_takeNewName_23 : decode cX6_takeNewName 23 = .ok (.iconst 0, 1) := by decide +kernel
theorem dX6_takeNewName_24 : decode cX6_takeNewName 24 = .ok (.istore_n 2, 1) := by decide +kernel
theorem dX6_takeNewName_25 : decode cX6_takeNewName 25 = .ok (.iload_n 2, 1) := by decide +kernel
theorem dX6_takeNewName_26 : decode cX6_takeNewName 26 = .ok (.ifCond .ne 11, 3) := by decide +kernel
theorem dX6_takeNewName_37 : decode cX6_takeNewName 37 = .ok (.aload_n 1, 1) := by decide +kernel
theorem dX6_takeNewName_38 : decode cX6_takeNewName 38 = .ok (.iload_n 2, 1) := by decide +kernel
theorem dX6_takeNewName_39 : decode cX6_takeNewName 39 = .ok (.invokevirtual 83, 3) := by decide +kernel
theorem cw_RX6_83 : zCwV RX6 83 mX0_printerNamed := zall [453, 454, 455, 35, 456] (by decide +kernel) (by decide +kernel)
theorem dX6_takeNewName_42 : decode cX6_takeNewName 42 = .ok (.iconst (-1), 1) := by decide +kernel
theorem dX6_takeNewName_43 : decode cX6_takeNewName 43 = .ok (.if_icmp .eq 11, 3) := by decide +kernel
theorem dX6_takeNewName_54 : decode cX6_takeNewName 54 = .ok (.aload_n 0, 1) := by decide +kernel
theorem dX6_takeNewName_55 : decode cX6_takeNewName 55 = .ok (.invokevirtual 47, 3) := by decide +kernel
theorem dX6_takeNewName_58 : decode cX6_takeNewName 58 = .ok (.iload_n 2, 1) := by decide +kernel
theorem dX6_takeNewName_59 : decode cX6_takeNewName 59 = .ok (.ireturn, 1) := by decide +kernel
theorem dX6_takeNewName_46 : decode cX6_takeNewName 46 = .ok (.aload_n 0, 1) := by decide +kernel
theorem dX6_takeNewName_47 : decode cX6_takeNewName 47 = .ok (.iconst 3, 1) := by decide +kernel
theorem dX6_takeNewName_48 : decode cX6_takeNewName 48 = .ok (.invokevirtual 58, 3) := by decide +kernel
theorem dX6_takeNewName_51 : decode cX6_takeNewName 51 = .ok (.goto 7, 3) := by decide +kernel
theorem dX6_takeNewName_29 : decode cX6_takeNewName 29 = .ok (.aload_n 0, 1) := by decide +kernel
theorem dX6_takeNewName_30 : decode cX6_takeNewName 30 = .ok (.iconst 1, 1) := by decide +kernel
theorem dX6_takeNewName_31 : decode cX6_takeNewName 31 = .ok (.invokevirtual 58, 3) := by decide +kernel
theorem dX6_takeNewName_34 : decode cX6_takeNewName 34 = .ok (.goto 24, 3) := by decide +kernel
theorem dX6_takeNewName_8 : decode cX6_takeNewName 8 = .ok (.aload_n 0, 1) := by decide +kernel
theorem dX6_takeNewName_9 : decode cX6_takeNewName 9 = .ok (.aload_n 0, 1) := by decide +kernel
theorem dX6_takeNewName_10 : decode cX6_takeNewName 10 = .ok (.getfield 22, 3) := by decide +kernel
theorem dX6_takeNewName_13 : decode cX6_takeNewName 13 = .ok (.aload_n 0, 1) := by decide +kernel
theorem dX6_takeNewName_14 : decode cX6_takeNewName 14 = .ok (.getfield 25, 3) := by decide +kernel
theorem dX6_takeNewName_17 : decode cX6_takeNewName 17 = .ok (.invokevirtual 79, 3) := by decide +kernel
theorem cw_RX6_79 : zCwV RX6 79 mX6_packedName := zall [447, 448, 449, 32, 450] (by decide +kernel) (by decide +kernel)
theorem dX6_takeNewName_20 : decode cX6_takeNewName 20 = .ok (.goto 4, 3) := by decide +kernel
abbrev mX6_takePrinter : zM := (yX6_takePrinter, cX6_takePrinter, 4, (some .int), [])
theorem okX6_takePrinter : zMok mX6_takePrinter 1 := ⟨by decide, by decide, by decide +kernel⟩
theorem dX6_takePrinter_0 : decode cX6_takePrinter 0 = .ok (.aload_n 0, 1) := by decide +kernel
theorem dX6_takePrinter_1 : decode cX6_takePrinter 1 = .ok (.getfield 19, 3) := by decide +kernel
theorem dX6_takePrinter_4 : decode cX6_takePrinter 4 = .ok (.iconst 1, 1) := by decide +kernel
theorem dX6_takePrinter_5 : decode cX6_takePrinter 5 = .ok (.if_icmp .ne 18, 3) := by decide +kernel
theorem dX6_takePrinter_23 : decode cX6_takePrinter 23 = .ok (.iconst 0, 1) := by decide +kernel
theorem dX6_takePrinter_24 : decode cX6_takePrinter 24 = .ok (.istore_n 2, 1) := by decide +kernel
theorem dX6_takePrinter_25 : decode cX6_takePrinter 25 = .ok (.aload_n 1, 1) := by decide +kernel
theorem dX6_takePrinter_26 : decode cX6_takePrinter 26 = .ok (.iload_n 2, 1) := by decide +kernel
theorem dX6_takePrinter_27 : decode cX6_takePrinter 27 = .ok (.invokevirtual 83, 3) := by decide +kernel
theorem dX6_takePrinter_30 : decode cX6_takePrinter 30 = .ok (.istore_n 3, 1) := by decide +kernel
theorem dX6_takePrinter_31 : decode cX6_takePrinter 31 = .ok (.iload_n 2, 1) := by decide +kernel
theorem dX6_takePrinter_32 : decode cX6_takePrinter 32 = .ok (.ifCond .ne 11, 3) := by decide +kernel
theorem dX6_takePrinter_43 : decode cX6_takePrinter 43 = .ok (.iload_n 3, 1) := by decide +kernel
theorem dX6_takePrinter_44 : decode cX6_takePrinter 44 = .ok (.iconst (-1), 1) := by decide +kernel
theorem dX6_takePrinter_45 : decode cX6_takePrinter 45 = .ok (.if_icmp .ne 11, 3) := by decide +kernel
theorem dX6_takePrinter_56 : decode cX6_takePrinter 56 = .ok (.aload_n 0, 1) := by decide +kernel
theorem dX6_takePrinter_57 : decode cX6_takePrinter 57 = .ok (.invokevirtual 47, 3) := by decide +kernel
theorem dX6_takePrinter_60 : decode cX6_takePrinter 60 = .ok (.iload_n 3, 1) := by decide +kernel
theorem dX6_takePrinter_61 : decode cX6_takePrinter 61 = .ok (.ireturn, 1) := by decide +kernel
theorem dX6_takePrinter_48 : decode cX6_takePrinter 48 = .ok (.aload_n 0, 1) := by decide +kernel
theorem dX6_takePrinter_49 : decode cX6_takePrinter 49 = .ok (.iconst 3, 1) := by decide +kernel
theorem dX6_takePrinter_50 : decode cX6_takePrinter 50 = .ok (.invokevirtual 58, 3) := by decide +kernel
theorem dX6_takePrinter_53 : decode cX6_takePrinter 53 = .ok (.goto 7, 3) := by decide +kernel
theorem dX6_takePrinter_35 : decode cX6_takePrinter 35 = .ok (.aload_n 0, 1) := by decide +kernel
theorem dX6_takePrinter_36 : decode cX6_takePrinter 36 = .ok (.iconst 1, 1) := by decide +kernel
theorem dX6_takePrinter_37 : decode cX6_takePrinter 37 = .ok (.invokevirtual 58, 3) := by decide +kernel
theorem dX6_takePrinter_40 : decode cX6_takePrinter 40 = .ok (.goto 20, 3) := by decide +kernel
theorem dX6_takePrinter_8 : decode cX6_takePrinter 8 = .ok (.aload_n 0, 1) := by decide +kernel
theorem dX6_takePrinter_9 : decode cX6_takePrinter 9 = .ok (.aload_n 0, 1) := by decide +kernel
theorem dX6_takePrinter_10 : decode cX6_takePrinter 10 = .ok (.getfield 22, 3) := by decide +kernel
theorem dX6_takePrinter_13 : decode cX6_takePrinter 13 = .ok (.aload_n 0, 1) := by decide +kernel
theorem dX6_takePrinter_14 : decode cX6_takePrinter 14 = .ok (.getfield 25, 3) := by decide +kernel
theorem dX6_takePrinter_17 : decode cX6_takePrinter 17 = .ok (.invokevirtual 79, 3) := by decide +kernel
theorem dX6_takePrinter_20 : decode cX6_takePrinter 20 = .ok (.goto 4, 3) := by decide +kernel
/-! tokens of a text: what both readers see -/
noncomputable def rn (Q : Nat → Prop) (n : Nat) : Nat → Nat → Nat
  | 0, p => p
  | f + 1, p => @ite Nat (p < n ∧ Q p) (Classical.propDecidable _) (rn Q n f (p + 1)) p
noncomputable def rnE (Q : Nat → Prop) (n p : Nat) : Nat := rn Q n (n - p) p
theorem rnE_y {Q : Nat → Prop} {n p : Nat} (h : p < n) (hq : Q p) : rnE Q n p = rnE Q n (p + 1) := by
  unfold rnE
  have e : n - p = (n - (p + 1)) + 1 := by omega
  rw [e, rn, if_pos ⟨h, hq⟩]
theorem rnE_n {Q : Nat → Prop} {n p : Nat} (h : ¬ (p < n ∧ Q p)) : rnE Q n p = p := by
  unfold rnE
  cases n - p with
  | zero => rfl
  | succ f => rw [rn, if_neg h]
theorem rn_le {Q : Nat → Prop} {n : Nat} : ∀ (f p : Nat), p ≤ rn Q n f p ∧ rn Q n f p ≤ max p n
  | 0, p => ⟨Nat.le_refl _, Nat.le_max_left _ _⟩
  | f + 1, p => by
    rw [rn]
    split
    · have := rn_le (Q := Q) (n := n) f (p + 1); omega
    · omega
theorem rnE_le (Q : Nat → Prop) (n p : Nat) : p ≤ rnE Q n p ∧ rnE Q n p ≤ max p n := rn_le _ _
theorem rn_end {Q : Nat → Prop} {n : Nat} : ∀ (f p : Nat), n - p ≤ f → ¬ (rn Q n f p < n ∧ Q (rn Q n f p))
  | 0, p, h => by rw [rn]; omega
  | f + 1, p, h => by
    rw [rn]
    split
    · exact rn_end f (p + 1) (by omega)
    · assumption
theorem rnE_end (Q : Nat → Prop) (n p : Nat) : ¬ (rnE Q n p < n ∧ Q (rnE Q n p)) := rn_end _ _ (Nat.le_refl _)
theorem rn_in {Q : Nat → Prop} {n : Nat} : ∀ (f p i : Nat), p ≤ i → i < rn Q n f p → i < n ∧ Q i
  | 0, p, i, h1, h2 => by rw [rn] at h2; omega
  | f + 1, p, i, h1, h2 => by
    rw [rn] at h2
    split at h2
    · rename_i h
      by_cases e : i = p
      · rw [e]; exact h
      · exact rn_in f (p + 1) i (by omega) h2
    · omega
theorem rnE_in {Q : Nat → Prop} {n p i : Nat} (h1 : p ≤ i) (h2 : i < rnE Q n p) : i < n ∧ Q i := rn_in _ _ _ h1 h2
theorem rnE_id (Q : Nat → Prop) (n p : Nat) : rnE Q n (rnE Q n p) = rnE Q n p := rnE_n (rnE_end Q n p)
def isSp (t : Nat → Int) (i : Nat) : Prop := t i = 32
def isWd (t : Nat → Int) (i : Nat) : Prop := 97 ≤ t i ∧ t i ≤ 122
def isDg (t : Nat → Int) (i : Nat) : Prop := 48 ≤ t i ∧ t i ≤ 57
def kb (b : Int) : Int := if 97 ≤ b ∧ b ≤ 122 then 1 else if 48 ≤ b ∧ b ≤ 57 then 2 else if b = 59 then 3 else 4
theorem kb_r (b : Int) : 1 ≤ kb b ∧ kb b ≤ 4 := by unfold kb; (repeat' split) <;> omega
theorem kb_1 {b : Int} : kb b = 1 ↔ 97 ≤ b ∧ b ≤ 122 := by unfold kb; (repeat' split) <;> omega
theorem kb_2 {b : Int} : kb b = 2 ↔ 48 ≤ b ∧ b ≤ 57 := by unfold kb; (repeat' split) <;> omega
theorem kb_3 {b : Int} : kb b = 3 ↔ b = 59 := by unfold kb; (repeat' split) <;> omega
noncomputable def xS (t : Nat → Int) (n p : Nat) : Nat := rnE (isSp t) n p
noncomputable def xK (t : Nat → Int) (n p : Nat) : Int := if n ≤ xS t n p then 0 else kb (t (xS t n p))
noncomputable def xE (t : Nat → Int) (n p : Nat) : Nat := if xK t n p = 0 then xS t n p else if xK t n p = 1 then rnE (isWd t) n (xS t n p) else if xK t n p = 2 then rnE (isDg t) n (xS t n p) else xS t n p + 1
theorem xK_r (t : Nat → Int) (n p : Nat) : 0 ≤ xK t n p ∧ xK t n p ≤ 4 := by
  unfold xK; split
  · omega
  · have := kb_r (t (xS t n p)); omega
theorem xK_n {t : Nat → Int} {n p : Nat} (h : ¬ xK t n p = 0) : xS t n p < n ∧ xK t n p = kb (t (xS t n p)) := by
  unfold xK at *
  split at h
  · exact absurd rfl h
  · rename_i q; exact ⟨by omega, if_neg q⟩
theorem xS_le {t : Nat → Int} {n p : Nat} (h : p ≤ n) : p ≤ xS t n p ∧ xS t n p ≤ n := by
  have := rnE_le (isSp t) n p
  unfold xS; omega
theorem xE_le {t : Nat → Int} {n p : Nat} (h : p ≤ n) : xS t n p ≤ xE t n p ∧ xE t n p ≤ n := by
  have h1 := xS_le (t := t) h
  have hw := rnE_le (isWd t) n (xS t n p)
  have hd := rnE_le (isDg t) n (xS t n p)
  have hn := @xK_n t n p
  unfold xE
  split
  · omega
  · split
    · omega
    · split
      · omega
      · have := hn (by assumption); omega
theorem xE_lt {t : Nat → Int} {n p : Nat} (h : p ≤ n) (hk : ¬ xK t n p = 0) : xS t n p < xE t n p := by
  obtain ⟨h1, h2⟩ := xK_n hk
  have hw := rnE_le (isWd t) n (xS t n p + 1)
  have hd := rnE_le (isDg t) n (xS t n p + 1)
  unfold xE
  rw [if_neg hk]
  split
  · rename_i q
    rw [h2, kb_1] at q
    rw [rnE_y h1 q]; omega
  · split
    · rename_i q
      rw [h2, kb_2] at q
      rw [rnE_y h1 q]; omega
    · omega
theorem xS_tS (t : Nat → Int) (n p : Nat) : xS t n (xS t n p) = xS t n p := rnE_id _ _ _
theorem xK_at {t : Nat → Int} {n p q : Nat} (h : xS t n p = xS t n q) : xK t n p = xK t n q := by unfold xK; rw [h]
theorem xE_at {t : Nat → Int} {n p q : Nat} (h : xS t n p = xS t n q) : xE t n p = xE t n q := by unfold xE; rw [xK_at h, h]
/-! the state of a reader: where it stands, the code and the place of the first error -/
abbrev zP : Type := Nat × Int × Int
noncomputable def pF (t : Nat → Int) (n : Nat) (S : zP) (c : Int) : zP := if S.2.1 = 0 then (S.1, c, (xS t n S.1 : Int)) else S
noncomputable def pN (t : Nat → Int) (n : Nat) (S : zP) : zP := (xE t n S.1, S.2)
def dv (t : Nat → Int) (a : Nat) : Nat → Int
  | 0 => 0
  | k + 1 => 10 * dv t a k + t (a + k) - 48
noncomputable def pV (t : Nat → Int) (n p : Nat) : Int := dv t (xS t n p) (xE t n p - xS t n p)
noncomputable def pNum (t : Nat → Int) (n : Nat) (S : zP) (lo hi : Int) : zP :=
  if ¬ S.2.1 = 0 then S else if ¬ (xK t n S.1 = 2 ∧ xE t n S.1 - xS t n S.1 ≤ 4) then pF t n S 1 else if ¬ (lo ≤ pV t n S.1 ∧ pV t n S.1 ≤ hi) then pF t n S 2 else pN t n S
noncomputable def pSem (t : Nat → Int) (n : Nat) (S : zP) : zP := if ¬ S.2.1 = 0 then S else if xK t n S.1 = 3 then pN t n S else pF t n S 1
def isW (t : Nat → Int) (n p j : Nat) : Prop := xK t n p = 1 ∧ xE t n p - xS t n p = zslen.getD j 0 ∧ ∀ i, i < zslen.getD j 0 → t (xS t n p + i) = ((zsbyt.getD j []).getD i 0).toInt
noncomputable def kdv (t : Nat → Int) (n p : Nat) : Int :=
  @ite Int (isW t n p 8) (Classical.propDecidable _) 0 (@ite Int (isW t n p 9) (Classical.propDecidable _) 1 (@ite Int (isW t n p 10) (Classical.propDecidable _) 2 (@ite Int (isW t n p 13) (Classical.propDecidable _) 3 (@ite Int (isW t n p 14) (Classical.propDecidable _) 4 (-1)))))
noncomputable def pKd (t : Nat → Int) (n : Nat) (S : zP) : zP := if ¬ S.2.1 = 0 then S else if kdv t n S.1 = -1 then pF t n S 1 else pN t n S
noncomputable def nmv (t : Nat → Int) (n : Nat) (S : zP) : Int := if S.2.1 = 0 ∧ xK t n S.1 = 1 ∧ xE t n S.1 - xS t n S.1 ≤ 6 then pkF (fun k => t (xS t n S.1 + k)) (xE t n S.1 - xS t n S.1) else 0
noncomputable def fz (f : Nat → Int) (P x : Int) : Int := zfst (fun i => f i = x) P.toNat
noncomputable def pNew (t : Nat → Int) (n : Nat) (f : Nat → Int) (P : Int) (S : zP) : zP := if ¬ S.2.1 = 0 then S else if nmv t n S = 0 then pF t n S 1 else if ¬ fz f P (nmv t n S) = -1 then pF t n S 3 else pN t n S
noncomputable def pPrn (t : Nat → Int) (n : Nat) (f : Nat → Int) (P : Int) (S : zP) : zP := if ¬ S.2.1 = 0 then S else if nmv t n S = 0 then pF t n S 1 else if fz f P (nmv t n S) = -1 then pF t n S 3 else pN t n S
/-- the class's reader in its cell -/
def PC (t : Nat → Int) (n : Nat) (S : zP) (σ : zS) : Prop := (∀ i : Nat, σ.1 2 i = t i) ∧ (σ.1 1 1 = (n : Int) ∧ n ≤ 1400) ∧ S.1 ≤ n ∧ (σ.1 1 5 = S.2.1 ∧ σ.1 1 6 = S.2.2) ∧ (S.2.1 = 0 → S.2.2 = -1 ∧ σ.1 1 2 = xK t n S.1 ∧ σ.1 1 3 = xS t n S.1 ∧ σ.1 1 4 = xE t n S.1) ∧ (¬ S.2.1 = 0 → σ.1 1 2 = 4)
theorem pF_0 {t : Nat → Int} {n : Nat} {S : zP} {c : Int} (h : S.2.1 = 0) : pF t n S c = (S.1, c, (xS t n S.1 : Int)) := if_pos h
theorem pF_n {t : Nat → Int} {n : Nat} {S : zP} {c : Int} (h : ¬ S.2.1 = 0) : pF t n S c = S := if_neg h
theorem pF_1 (t : Nat → Int) (n : Nat) (S : zP) (c : Int) : (pF t n S c).1 = S.1 := by unfold pF; split <;> rfl
theorem pN_0 {t : Nat → Int} {n : Nat} {S : zP} (h : S.2.1 = 0) (h2 : S.2.2 = -1) : (xE t n S.1, (0 : Int), (-1 : Int)) = pN t n S := by
  unfold pN; rw [← h, ← h2]
theorem dv_b {t : Nat → Int} {a : Nat} : ∀ {k : Nat}, (∀ i, i < k → isDg t (a + i)) → 0 ≤ dv t a k ∧ dv t a k < ((10 ^ k : Nat) : Int)
  | 0, _ => ⟨Int.le_refl _, by show (0 : Int) < 1; omega⟩
  | k + 1, h => by
    have := dv_b (k := k) (fun i hi => h i (by omega))
    have hk := h k (Nat.lt_succ_self k)
    unfold isDg at hk
    rw [dv]
    have e : ((10 ^ (k + 1) : Nat) : Int) = ((10 ^ k : Nat) : Int) * 10 := by rw [Nat.pow_succ, Int.natCast_mul]; rfl
    rw [e]; omega
theorem dv_4 {t : Nat → Int} {a k : Nat} (hk : k ≤ 4) (h : ∀ i, i < k → isDg t (a + i)) : 0 ≤ dv t a k ∧ dv t a k < 10000 := by
  have := dv_b h
  have hp : 10 ^ k ≤ 10 ^ 4 := Nat.pow_le_pow_right (by omega) hk
  have e : (10 : Nat) ^ 4 = 10000 := by decide
  omega
theorem tok_w {t : Nat → Int} {n p : Nat} (h : xK t n p = 1) : xE t n p = rnE (isWd t) n (xS t n p) ∧ ∀ i, xS t n p ≤ i → i < xE t n p → i < n ∧ isWd t i := by
  have e : xE t n p = rnE (isWd t) n (xS t n p) := by unfold xE; rw [h, if_neg (by decide), if_pos rfl]
  exact ⟨e, fun i h1 h2 => rnE_in h1 (by rw [← e]; exact h2)⟩
theorem tok_d {t : Nat → Int} {n p : Nat} (h : xK t n p = 2) : xE t n p = rnE (isDg t) n (xS t n p) ∧ ∀ i, xS t n p ≤ i → i < xE t n p → i < n ∧ isDg t i := by
  have e : xE t n p = rnE (isDg t) n (xS t n p) := by unfold xE; rw [h, if_neg (by decide), if_neg (by decide), if_pos rfl]
  exact ⟨e, fun i h1 h2 => rnE_in h1 (by rw [← e]; exact h2)⟩
theorem pkF_p {f : Nat → Int} {n : Nat} (hn : 1 ≤ n) (h6 : n ≤ 6) (h : ∀ k, k < n → 97 ≤ f k ∧ f k ≤ 122) : 1 ≤ pkF f n := by
  have e : n = (n - 1) + 1 := by omega
  have hb := pkF_b (f := f) (n := n - 1) (by omega) (fun k hk => h k (by omega))
  have hl := h (n - 1) (by omega)
  rw [e, pkF]; omega
theorem PC_mk {t : Nat → Int} {n e i : Nat} {τ : zS} (hT : ∀ j : Nat, τ.1 2 j = t j) (hn : τ.1 1 1 = (n : Int) ∧ n ≤ 1400) (he : e ≤ n) (hS : xS t n e = i) (k : τ.1 1 2 = xK t n e) (s : τ.1 1 3 = i) (m : τ.1 1 4 = xE t n e) (h5 : τ.1 1 5 = 0) (h6 : τ.1 1 6 = -1) : PC t n (e, 0, -1) τ :=
  ⟨hT, hn, he, ⟨h5, h6⟩, fun _ => ⟨rfl, k, by rw [s, hS], m⟩, fun q => absurd rfl q⟩
theorem pF_nz {t : Nat → Int} {n : Nat} {S : zP} {c : Int} (hc : ¬ c = 0) : ¬ (pF t n S c).2.1 = 0 := by
  unfold pF; split
  · exact hc
  · assumption
theorem pNum_1 {t : Nat → Int} {n : Nat} {S : zP} {lo hi : Int} (h : ¬ (S.2.1 = 0 ∧ xK t n S.1 = 2 ∧ xE t n S.1 - xS t n S.1 ≤ 4)) : pNum t n S lo hi = pF t n S 1 := by
  unfold pNum
  by_cases q : S.2.1 = 0
  · rw [if_neg (fun z => z q), if_pos (fun z => h ⟨q, z⟩)]
  · rw [if_pos q, pF_n q]
theorem pNum_2 {t : Nat → Int} {n : Nat} {S : zP} {lo hi : Int} (h : S.2.1 = 0 ∧ xK t n S.1 = 2 ∧ xE t n S.1 - xS t n S.1 ≤ 4) (h2 : ¬ (lo ≤ pV t n S.1 ∧ pV t n S.1 ≤ hi)) : pNum t n S lo hi = pF t n S 2 := by
  unfold pNum
  rw [if_neg (fun z => z h.1), if_neg (fun z => z h.2), if_pos h2]
theorem pNum_3 {t : Nat → Int} {n : Nat} {S : zP} {lo hi : Int} (h : S.2.1 = 0 ∧ xK t n S.1 = 2 ∧ xE t n S.1 - xS t n S.1 ≤ 4) (h2 : lo ≤ pV t n S.1 ∧ pV t n S.1 ≤ hi) : pNum t n S lo hi = pN t n S := by
  unfold pNum
  rw [if_neg (fun z => z h.1), if_neg (fun z => z h.2), if_neg (fun z => z h2)]
theorem pSem_y {t : Nat → Int} {n : Nat} {S : zP} (h : S.2.1 = 0) (h2 : xK t n S.1 = 3) : pSem t n S = pN t n S := by
  unfold pSem; rw [if_neg (fun z => z h), if_pos h2]
theorem pSem_n {t : Nat → Int} {n : Nat} {S : zP} (h : ¬ (S.2.1 = 0 ∧ xK t n S.1 = 3)) : pSem t n S = pF t n S 1 := by
  unfold pSem
  by_cases q : S.2.1 = 0
  · rw [if_neg (fun z => z q), if_neg (fun z => h ⟨q, z⟩)]
  · rw [if_pos q, pF_n q]
theorem kdv_0 {t : Nat → Int} {n p : Nat} (a : isW t n p 8) : kdv t n p = 0 := if_pos a
theorem kdv_1 {t : Nat → Int} {n p : Nat} (a : ¬ isW t n p 8) (b : isW t n p 9) : kdv t n p = 1 := by unfold kdv; rw [if_neg a, if_pos b]
theorem kdv_2 {t : Nat → Int} {n p : Nat} (a : ¬ isW t n p 8) (b : ¬ isW t n p 9) (c : isW t n p 10) : kdv t n p = 2 := by unfold kdv; rw [if_neg a, if_neg b, if_pos c]
theorem kdv_3 {t : Nat → Int} {n p : Nat} (a : ¬ isW t n p 8) (b : ¬ isW t n p 9) (c : ¬ isW t n p 10) (d : isW t n p 13) : kdv t n p = 3 := by unfold kdv; rw [if_neg a, if_neg b, if_neg c, if_pos d]
theorem kdv_4 {t : Nat → Int} {n p : Nat} (a : ¬ isW t n p 8) (b : ¬ isW t n p 9) (c : ¬ isW t n p 10) (d : ¬ isW t n p 13) (e : isW t n p 14) : kdv t n p = 4 := by unfold kdv; rw [if_neg a, if_neg b, if_neg c, if_neg d, if_pos e]
theorem kdv_n {t : Nat → Int} {n p : Nat} (a : ¬ isW t n p 8) (b : ¬ isW t n p 9) (c : ¬ isW t n p 10) (d : ¬ isW t n p 13) (e : ¬ isW t n p 14) : kdv t n p = -1 := by unfold kdv; rw [if_neg a, if_neg b, if_neg c, if_neg d, if_neg e]
theorem kdv_r (t : Nat → Int) (n p : Nat) : -1 ≤ kdv t n p ∧ kdv t n p ≤ 4 := by unfold kdv; (repeat' split) <;> omega
theorem pKd_y {t : Nat → Int} {n : Nat} {S : zP} (h : S.2.1 = 0) (h2 : ¬ kdv t n S.1 = -1) : pKd t n S = pN t n S := by
  unfold pKd; rw [if_neg (fun z => z h), if_neg h2]
theorem pKd_n {t : Nat → Int} {n : Nat} {S : zP} (h : S.2.1 = 0 → kdv t n S.1 = -1) : pKd t n S = pF t n S 1 := by
  unfold pKd
  by_cases q : S.2.1 = 0
  · rw [if_neg (fun z => z q), if_pos (h q)]
  · rw [if_pos q, pF_n q]
noncomputable def pkv (t : Nat → Int) (a b : Nat) : Int := @ite Int ((1 ≤ b - a ∧ b - a ≤ 6) ∧ ∀ i, a ≤ i → i < b → isWd t i) (Classical.propDecidable _) (pkF (fun k => t (a + k)) (b - a)) 0
theorem pkv_n {t : Nat → Int} {n : Nat} {S : zP} (h : S.2.1 = 0) (h1 : xK t n S.1 = 1) (hp : S.1 ≤ n) : pkv t (xS t n S.1) (xE t n S.1) = nmv t n S := by
  have h2 := tok_w h1
  have h3 := xE_lt (t := t) hp (by omega)
  unfold pkv nmv
  by_cases q : xE t n S.1 - xS t n S.1 ≤ 6
  · rw [if_pos ⟨⟨by omega, q⟩, fun i a b => (h2.2 i a b).2⟩, if_pos ⟨h, h1, q⟩]
  · rw [if_neg (fun z => q z.1.2), if_neg (fun z => q z.2.2)]
theorem nmv_0 {t : Nat → Int} {n : Nat} {S : zP} (h : ¬ (S.2.1 = 0 ∧ xK t n S.1 = 1)) : nmv t n S = 0 := by
  unfold nmv; rw [if_neg (fun z => h ⟨z.1, z.2.1⟩)]
theorem nmv_s {t : Nat → Int} {n : Nat} {S : zP} (h : ¬ nmv t n S = 0) : S.2.1 = 0 := by
  by_cases q : S.2.1 = 0
  · exact q
  · exact absurd (nmv_0 (fun z => q z.1)) h
theorem nmv_z (t : Nat → Int) (n : Nat) (S : zP) (hp : S.1 ≤ n) : zr (nmv t n S) := by
  unfold nmv
  split
  · rename_i q
    have h2 := tok_w q.2.1
    have := pkF_b (f := fun k => t (xS t n S.1 + k)) q.2.2 (fun k hk => (h2.2 (xS t n S.1 + k) (by omega) (by omega)).2)
    have hp : 32 ^ (xE t n S.1 - xS t n S.1) ≤ 32 ^ 6 := Nat.pow_le_pow_right (by omega) q.2.2
    have e : (32 : Nat) ^ 6 = 1073741824 := by decide
    unfold zr; omega
  · unfold zr; omega
theorem pNew_1 {t : Nat → Int} {n : Nat} {f : Nat → Int} {P : Int} {S : zP} (h : nmv t n S = 0) : pNew t n f P S = pF t n S 1 := by
  unfold pNew
  by_cases q : S.2.1 = 0
  · rw [if_neg (fun z => z q), if_pos h]
  · rw [if_pos q, pF_n q]
theorem pNew_3 {t : Nat → Int} {n : Nat} {f : Nat → Int} {P : Int} {S : zP} (h : ¬ nmv t n S = 0) (h2 : ¬ fz f P (nmv t n S) = -1) : pNew t n f P S = pF t n S 3 := by
  unfold pNew
  rw [if_neg (fun z => z (nmv_s h)), if_neg h, if_pos h2]
theorem pNew_y {t : Nat → Int} {n : Nat} {f : Nat → Int} {P : Int} {S : zP} (h : ¬ nmv t n S = 0) (h2 : fz f P (nmv t n S) = -1) : pNew t n f P S = pN t n S := by
  unfold pNew
  rw [if_neg (fun z => z (nmv_s h)), if_neg h, if_neg (fun z => z h2)]
theorem pPrn_1 {t : Nat → Int} {n : Nat} {f : Nat → Int} {P : Int} {S : zP} (h : nmv t n S = 0) : pPrn t n f P S = pF t n S 1 := by
  unfold pPrn
  by_cases q : S.2.1 = 0
  · rw [if_neg (fun z => z q), if_pos h]
  · rw [if_pos q, pF_n q]
theorem pPrn_3 {t : Nat → Int} {n : Nat} {f : Nat → Int} {P : Int} {S : zP} (h : ¬ nmv t n S = 0) (h2 : fz f P (nmv t n S) = -1) : pPrn t n f P S = pF t n S 3 := by
  unfold pPrn
  rw [if_neg (fun z => z (nmv_s h)), if_neg h, if_pos h2]
theorem pPrn_y {t : Nat → Int} {n : Nat} {f : Nat → Int} {P : Int} {S : zP} (h : ¬ nmv t n S = 0) (h2 : ¬ fz f P (nmv t n S) = -1) : pPrn t n f P S = pN t n S := by
  unfold pPrn
  rw [if_neg (fun z => z (nmv_s h)), if_neg h, if_neg h2]
theorem fz_r (f : Nat → Int) {P : Int} (hP : 0 ≤ P ∧ P ≤ 8) (x : Int) : -1 ≤ fz f P x ∧ fz f P x < P ∨ fz f P x = -1 := by
  unfold fz
  rcases zfst_cases (fun i => f i = x) P.toNat with ⟨h, _⟩ | ⟨i, h1, h2, _⟩
  · exact Or.inr h
  · rw [h2]; omega
theorem PC_s {t : Nat → Int} {n : Nat} {S : zP} {σ : zS} (h : PC t n S σ) (k : ¬ σ.1 1 2 = 4) : S.2.1 = 0 := by
  by_cases q : S.2.1 = 0
  · exact q
  · exact absurd (h.2.2.2.2.2 q) k

theorem zch_lt (j i : Nat) : 0 ≤ ((zsbyt.getD j []).getD i 0).toInt ∧ ((zsbyt.getD j []).getD i 0).toInt < 128 := by
  have hl : ∀ l ∈ zsbyt, ∀ x ∈ l, 0 ≤ x.toInt ∧ x.toInt < 128 := by decide +kernel
  have h0 : 0 ≤ (0 : Int32).toInt ∧ (0 : Int32).toInt < 128 := by decide +kernel
  rw [List.getD_eq_getElem?_getD, List.getD_eq_getElem?_getD]
  cases hx : zsbyt[j]? with
  | none => simpa using h0
  | some l =>
    cases hy : l[i]? with
    | none => simpa [hy] using h0
    | some y => simpa [hy] using hl l (List.mem_of_getElem? hx) y (List.mem_of_getElem? hy)

set_option maxRecDepth 20000 in
set_option maxHeartbeats 2000000 in
theorem sX6_kindOfByte {l : Launch} {w : zW} (hfl : l.stackTraces = false) {σ : zS} {x : Int} (hz : zOK σ) (hx : zr x) : Sp l w mX6_kindOfByte 0 0 [zi x] σ (zret (zi (kb x)) σ) := by
  obtain ⟨Q, hQ⟩ : ∃ Q : zQ, Q = (zret (zi (kb x)) σ) := ⟨_, rfl⟩
  rw [← hQ]
  refine zx_enter hfl (by decide) rfl 0 rfl ?_
  show zX l w mX6_kindOfByte (zMQ w 0 0 Q) 0 [zi x] [] 0 σ
  refine zx_iloadN dX6_kindOfByte_0 rfl rfl ?_
  refine zx_bipush dX6_kindOfByte_1 rfl ?_
  refine zx_icmp_lt (tgt := 14) (by first | exact hz _ _ | assumption | exact zr_b _ | exact zcmp_r _ _ | (unfold zr at *; omega)) (by first | exact hz _ _ | assumption | exact zr_b _ | exact zcmp_r _ _ | (unfold zr at *; omega)) dX6_kindOfByte_3 (by decide) (fun h3 => ?_) (fun h3 => ?_)
  · refine zx_iloadN dX6_kindOfByte_14 rfl rfl ?_
    refine zx_bipush dX6_kindOfByte_15 rfl ?_
    refine zx_icmp_lt (tgt := 28) (by first | exact hz _ _ | assumption | exact zr_b _ | exact zcmp_r _ _ | (unfold zr at *; omega)) (by first | exact hz _ _ | assumption | exact zr_b _ | exact zcmp_r _ _ | (unfold zr at *; omega)) dX6_kindOfByte_17 (by decide) (fun h17 => ?_) (fun h17 => ?_)
    · refine zx_iloadN dX6_kindOfByte_28 rfl rfl ?_
      refine zx_bipush dX6_kindOfByte_29 rfl ?_
      refine zx_icmp_ne (tgt := 38) (by first | exact hz _ _ | assumption | exact zr_b _ | exact zcmp_r _ _ | (unfold zr at *; omega)) (by first | exact hz _ _ | assumption | exact zr_b _ | exact zcmp_r _ _ | (unfold zr at *; omega)) dX6_kindOfByte_31 (by decide) (fun h31 => ?_) (fun h31 => ?_)
      · refine zx_iconst dX6_kindOfByte_38 ?_
        refine zx_iret rfl rfl dX6_kindOfByte_39 ?_
        rw [hQ]
        refine ⟨congrArg (fun z : Int => (Sum.inl (some (zi z)) : Option zV ⊕ String)) ?_, by first | rfl | (exfalso; omega)⟩
        unfold kb
        (repeat' split) <;> first | rfl | omega
      · refine zx_iconst dX6_kindOfByte_34 ?_
        refine zx_goto (tgt := 39) dX6_kindOfByte_35 (by decide) ?_
        refine zx_iret rfl rfl dX6_kindOfByte_39 ?_
        rw [hQ]
        refine ⟨congrArg (fun z : Int => (Sum.inl (some (zi z)) : Option zV ⊕ String)) ?_, by first | rfl | (exfalso; omega)⟩
        unfold kb
        (repeat' split) <;> first | rfl | omega
    · refine zx_iloadN dX6_kindOfByte_20 rfl rfl ?_
      refine zx_bipush dX6_kindOfByte_21 rfl ?_
      refine zx_icmp_gt (tgt := 28) (by first | exact hz _ _ | assumption | exact zr_b _ | exact zcmp_r _ _ | (unfold zr at *; omega)) (by first | exact hz _ _ | assumption | exact zr_b _ | exact zcmp_r _ _ | (unfold zr at *; omega)) dX6_kindOfByte_23 (by decide) (fun h23 => ?_) (fun h23 => ?_)
      · refine zx_iloadN dX6_kindOfByte_28 rfl rfl ?_
        refine zx_bipush dX6_kindOfByte_29 rfl ?_
        refine zx_icmp_ne (tgt := 38) (by first | exact hz _ _ | assumption | exact zr_b _ | exact zcmp_r _ _ | (unfold zr at *; omega)) (by first | exact hz _ _ | assumption | exact zr_b _ | exact zcmp_r _ _ | (unfold zr at *; omega)) dX6_kindOfByte_31 (by decide) (fun h31 => ?_) (fun h31 => ?_)
        · refine zx_iconst dX6_kindOfByte_38 ?_
          refine zx_iret rfl rfl dX6_kindOfByte_39 ?_
          rw [hQ]
          refine ⟨congrArg (fun z : Int => (Sum.inl (some (zi z)) : Option zV ⊕ String)) ?_, by first | rfl | (exfalso; omega)⟩
          unfold kb
          (repeat' split) <;> first | rfl | omega
        · refine zx_iconst dX6_kindOfByte_34 ?_
          refine zx_goto (tgt := 39) dX6_kindOfByte_35 (by decide) ?_
          refine zx_iret rfl rfl dX6_kindOfByte_39 ?_
          rw [hQ]
          refine ⟨congrArg (fun z : Int => (Sum.inl (some (zi z)) : Option zV ⊕ String)) ?_, by first | rfl | (exfalso; omega)⟩
          unfold kb
          (repeat' split) <;> first | rfl | omega
      · refine zx_iconst dX6_kindOfByte_26 ?_
        refine zx_iret rfl rfl dX6_kindOfByte_27 ?_
        rw [hQ]
        refine ⟨congrArg (fun z : Int => (Sum.inl (some (zi z)) : Option zV ⊕ String)) ?_, by first | rfl | (exfalso; omega)⟩
        unfold kb
        (repeat' split) <;> first | rfl | omega
  · refine zx_iloadN dX6_kindOfByte_6 rfl rfl ?_
    refine zx_bipush dX6_kindOfByte_7 rfl ?_
    refine zx_icmp_gt (tgt := 14) (by first | exact hz _ _ | assumption | exact zr_b _ | exact zcmp_r _ _ | (unfold zr at *; omega)) (by first | exact hz _ _ | assumption | exact zr_b _ | exact zcmp_r _ _ | (unfold zr at *; omega)) dX6_kindOfByte_9 (by decide) (fun h9 => ?_) (fun h9 => ?_)
    · refine zx_iloadN dX6_kindOfByte_14 rfl rfl ?_
      refine zx_bipush dX6_kindOfByte_15 rfl ?_
      refine zx_icmp_lt (tgt := 28) (by first | exact hz _ _ | assumption | exact zr_b _ | exact zcmp_r _ _ | (unfold zr at *; omega)) (by first | exact hz _ _ | assumption | exact zr_b _ | exact zcmp_r _ _ | (unfold zr at *; omega)) dX6_kindOfByte_17 (by decide) (fun h17 => ?_) (fun h17 => ?_)
      · refine zx_iloadN dX6_kindOfByte_28 rfl rfl ?_
        refine zx_bipush dX6_kindOfByte_29 rfl ?_
        refine zx_icmp_ne (tgt := 38) (by first | exact hz _ _ | assumption | exact zr_b _ | exact zcmp_r _ _ | (unfold zr at *; omega)) (by first | exact hz _ _ | assumption | exact zr_b _ | exact zcmp_r _ _ | (unfold zr at *; omega)) dX6_kindOfByte_31 (by decide) (fun h31 => ?_) (fun h31 => ?_)
        · refine zx_iconst dX6_kindOfByte_38 ?_
          refine zx_iret rfl rfl dX6_kindOfByte_39 ?_
          rw [hQ]
          refine ⟨congrArg (fun z : Int => (Sum.inl (some (zi z)) : Option zV ⊕ String)) ?_, by first | rfl | (exfalso; omega)⟩
          unfold kb
          (repeat' split) <;> first | rfl | omega
        · refine zx_iconst dX6_kindOfByte_34 ?_
          refine zx_goto (tgt := 39) dX6_kindOfByte_35 (by decide) ?_
          refine zx_iret rfl rfl dX6_kindOfByte_39 ?_
          rw [hQ]
          refine ⟨congrArg (fun z : Int => (Sum.inl (some (zi z)) : Option zV ⊕ String)) ?_, by first | rfl | (exfalso; omega)⟩
          unfold kb
          (repeat' split) <;> first | rfl | omega
      · refine zx_iloadN dX6_kindOfByte_20 rfl rfl ?_
        refine zx_bipush dX6_kindOfByte_21 rfl ?_
        refine zx_icmp_gt (tgt := 28) (by first | exact hz _ _ | assumption | exact zr_b _ | exact zcmp_r _ _ | (unfold zr at *; omega)) (by first | exact hz _ _ | assumption | exact zr_b _ | exact zcmp_r _ _ | (unfold zr at *; omega)) dX6_kindOfByte_23 (by decide) (fun h23 => ?_) (fun h23 => ?_)
        · refine zx_iloadN dX6_kindOfByte_28 rfl rfl ?_
          refine zx_bipush dX6_kindOfByte_29 rfl ?_
          refine zx_icmp_ne (tgt := 38) (by first | exact hz _ _ | assumption | exact zr_b _ | exact zcmp_r _ _ | (unfold zr at *; omega)) (by first | exact hz _ _ | assumption | exact zr_b _ | exact zcmp_r _ _ | (unfold zr at *; omega)) dX6_kindOfByte_31 (by decide) (fun h31 => ?_) (fun h31 => ?_)
          · refine zx_iconst dX6_kindOfByte_38 ?_
            refine zx_iret rfl rfl dX6_kindOfByte_39 ?_
            rw [hQ]
            refine ⟨congrArg (fun z : Int => (Sum.inl (some (zi z)) : Option zV ⊕ String)) ?_, by first | rfl | (exfalso; omega)⟩
            unfold kb
            (repeat' split) <;> first | rfl | omega
          · refine zx_iconst dX6_kindOfByte_34 ?_
            refine zx_goto (tgt := 39) dX6_kindOfByte_35 (by decide) ?_
            refine zx_iret rfl rfl dX6_kindOfByte_39 ?_
            rw [hQ]
            refine ⟨congrArg (fun z : Int => (Sum.inl (some (zi z)) : Option zV ⊕ String)) ?_, by first | rfl | (exfalso; omega)⟩
            unfold kb
            (repeat' split) <;> first | rfl | omega
        · refine zx_iconst dX6_kindOfByte_26 ?_
          refine zx_iret rfl rfl dX6_kindOfByte_27 ?_
          rw [hQ]
          refine ⟨congrArg (fun z : Int => (Sum.inl (some (zi z)) : Option zV ⊕ String)) ?_, by first | rfl | (exfalso; omega)⟩
          unfold kb
          (repeat' split) <;> first | rfl | omega
    · refine zx_iconst dX6_kindOfByte_12 ?_
      refine zx_iret rfl rfl dX6_kindOfByte_13 ?_
      rw [hQ]
      refine ⟨congrArg (fun z : Int => (Sum.inl (some (zi z)) : Option zV ⊕ String)) ?_, by first | rfl | (exfalso; omega)⟩
      unfold kb
      (repeat' split) <;> first | rfl | omega
set_option maxRecDepth 20000 in
set_option maxHeartbeats 2000000 in
theorem sX6_isSound {l : Launch} {w : zW} (hfl : l.stackTraces = false) {σ : zS}  (hz : zOK σ)  : Sp l w mX6_isSound 0 0 [zf 6 1] σ (zret (zi (zb (σ.1 1 5 = 0))) σ) := by
  obtain ⟨Q, hQ⟩ : ∃ Q : zQ, Q = (zret (zi (zb (σ.1 1 5 = 0))) σ) := ⟨_, rfl⟩
  rw [← hQ]
  refine zx_enter hfl (by decide) rfl 0 rfl ?_
  show zX l w mX6_isSound (zMQ w 0 0 Q) 0 [zf 6 1] [] 0 σ
  refine zx_aloadN dX6_isSound_0 rfl rfl ?_
  refine zy_getI fl_RX6_28 rfl dX6_isSound_1 rfl ?_
  refine zx_if_ne (tgt := 11) (by first | exact hz _ _ | assumption | exact zr_b _ | exact zcmp_r _ _ | (unfold zr at *; omega)) dX6_isSound_4 (by decide) (fun h4 => ?_) (fun h4 => ?_)
  · refine zx_iconst dX6_isSound_11 ?_
    refine zx_iret rfl rfl dX6_isSound_12 ?_
    rw [hQ]
    refine ⟨congrArg (fun z : Int => (Sum.inl (some (zi z)) : Option zV ⊕ String)) ?_, by first | rfl | (exfalso; omega)⟩
    first | rfl | exact (zb_t (by first | assumption | omega)).symm | exact (zb_f (by first | assumption | omega)).symm | exact zb_c (by constructor <;> intro q <;> omega)
  · refine zx_iconst dX6_isSound_7 ?_
    refine zx_goto (tgt := 12) dX6_isSound_8 (by decide) ?_
    refine zx_iret rfl rfl dX6_isSound_12 ?_
    rw [hQ]
    refine ⟨congrArg (fun z : Int => (Sum.inl (some (zi z)) : Option zV ⊕ String)) ?_, by first | rfl | (exfalso; omega)⟩
    first | rfl | exact (zb_t (by first | assumption | omega)).symm | exact (zb_f (by first | assumption | omega)).symm | exact zb_c (by constructor <;> intro q <;> omega)
set_option maxRecDepth 20000 in
set_option maxHeartbeats 2000000 in
theorem sX6_hasMore {l : Launch} {w : zW} (hfl : l.stackTraces = false) {σ : zS}  (hz : zOK σ)  : Sp l w mX6_hasMore 1 0 [zf 6 1] σ (zret (zi (zb (σ.1 1 5 = 0 ∧ ¬ σ.1 1 2 = 0))) σ) := by
  obtain ⟨Q, hQ⟩ : ∃ Q : zQ, Q = (zret (zi (zb (σ.1 1 5 = 0 ∧ ¬ σ.1 1 2 = 0))) σ) := ⟨_, rfl⟩
  rw [← hQ]
  refine zx_enter hfl (by decide) rfl 0 rfl ?_
  show zX l w mX6_hasMore (zMQ w 1 0 Q) 0 [zf 6 1] [] 0 σ
  refine zx_aloadN dX6_hasMore_0 rfl rfl ?_
  refine zy_cv [] (sX6_isSound  hfl hz ) dX6_hasMore_1 (by decide) rfl cw_RX6_50 okX6_isSound rfl (Nat.le_of_ble_eq_true rfl) ⟨Nat.le_of_ble_eq_true rfl, Nat.le_of_ble_eq_true rfl, Nat.le_of_ble_eq_true rfl, Nat.le_of_ble_eq_true rfl⟩ ?_
  refine zx_if_eq (tgt := 18) (by first | exact hz _ _ | assumption | exact zr_b _ | exact zcmp_r _ _ | (unfold zr at *; omega)) dX6_hasMore_4 (by decide) (fun h4 => ?_) (fun h4 => ?_)
  · have h4 := zb_0.mp h4
    refine zx_iconst dX6_hasMore_18 ?_
    refine zx_iret rfl rfl dX6_hasMore_19 ?_
    rw [hQ]
    refine ⟨congrArg (fun z : Int => (Sum.inl (some (zi z)) : Option zV ⊕ String)) ?_, by first | rfl | (exfalso; omega)⟩
    first | exact (zb_t ⟨by assumption, by assumption⟩).symm | exact (zb_f (fun q => absurd q.1 (by assumption))).symm | exact (zb_f (fun q => q.2 (by assumption))).symm
  · have h4 := zb_n.mp h4
    refine zx_aloadN dX6_hasMore_7 rfl rfl ?_
    refine zy_getI fl_RX6_19 rfl dX6_hasMore_8 rfl ?_
    refine zx_if_eq (tgt := 18) (by first | exact hz _ _ | assumption | exact zr_b _ | exact zcmp_r _ _ | (unfold zr at *; omega)) dX6_hasMore_11 (by decide) (fun h11 => ?_) (fun h11 => ?_)
    · refine zx_iconst dX6_hasMore_18 ?_
      refine zx_iret rfl rfl dX6_hasMore_19 ?_
      rw [hQ]
      refine ⟨congrArg (fun z : Int => (Sum.inl (some (zi z)) : Option zV ⊕ String)) ?_, by first | rfl | (exfalso; omega)⟩
      first | exact (zb_t ⟨by assumption, by assumption⟩).symm | exact (zb_f (fun q => absurd q.1 (by assumption))).symm | exact (zb_f (fun q => q.2 (by assumption))).symm
    · refine zx_iconst dX6_hasMore_14 ?_
      refine zx_goto (tgt := 19) dX6_hasMore_15 (by decide) ?_
      refine zx_iret rfl rfl dX6_hasMore_19 ?_
      rw [hQ]
      refine ⟨congrArg (fun z : Int => (Sum.inl (some (zi z)) : Option zV ⊕ String)) ?_, by first | rfl | (exfalso; omega)⟩
      first | exact (zb_t ⟨by assumption, by assumption⟩).symm | exact (zb_f (fun q => absurd q.1 (by assumption))).symm | exact (zb_f (fun q => q.2 (by assumption))).symm
set_option maxRecDepth 20000 in
set_option maxHeartbeats 2000000 in
theorem sX6_fail {l : Launch} {w : zW} (hfl : l.stackTraces = false) {σ : zS} {t : Nat → Int} {n : Nat} {S : zP} {x : Int} (hz : zOK σ) (hx : 1 ≤ x ∧ x ≤ 4) (hP : PC t n S σ) : Sp l w mX6_fail 1 0 [zf 6 1, zi x] σ (zqv (none) (fun τ => zOK τ ∧ zSame (fun q => q = 1) σ τ ∧ PC t n (pF t n S x) τ)) := by
  obtain ⟨Q, hQ⟩ : ∃ Q : zQ, Q = (zqv (none) (fun τ => zOK τ ∧ zSame (fun q => q = 1) σ τ ∧ PC t n (pF t n S x) τ)) := ⟨_, rfl⟩
  rw [← hQ]
  refine zx_enter hfl (by decide) rfl 0 rfl ?_
  show zX l w mX6_fail (zMQ w 1 0 Q) 0 [zf 6 1, zi x] [] 0 σ
  have hx2 : zr x := by unfold zr; omega
  obtain ⟨pT, pn, pp, ⟨p5, p6⟩, ps, pu⟩ := hP
  refine zx_aloadN dX6_fail_0 rfl rfl ?_
  refine zy_cv [] (sX6_isSound  hfl hz ) dX6_fail_1 (by decide) rfl cw_RX6_50 okX6_isSound rfl (Nat.le_of_ble_eq_true rfl) ⟨Nat.le_of_ble_eq_true rfl, Nat.le_of_ble_eq_true rfl, Nat.le_of_ble_eq_true rfl, Nat.le_of_ble_eq_true rfl⟩ ?_
  refine zx_if_eq (tgt := 20) (by first | exact hz _ _ | assumption | exact zr_b _ | exact zcmp_r _ _ | (unfold zr at *; omega)) dX6_fail_4 (by decide) (fun h4 => ?_) (fun h4 => ?_)
  · have h4 := zb_0.mp h4
    refine zx_aloadN dX6_fail_20 rfl rfl ?_
    refine zx_iconst dX6_fail_21 ?_
    refine zx_putI fl_RX6_19 rfl (Or.inl fp_6_2) dX6_fail_22 ?_
    refine zx_vret rfl dX6_fail_25 ?_
    rw [hQ]
    refine ⟨rfl, ?_⟩
    first
    | (have h0 : S.2.1 = 0 := by omega
       obtain ⟨e1, e2, e3, e4⟩ := ps h0
       rw [pF_0 h0]
       refine ⟨(zOK_put hz (by unfold zr; omega)), ⟨fun q hq i => by have hq2 := hq; dsimp only at hq2; exact (zput_k _ _ _ _ _ (by omega)).trans ((zput_k _ _ _ _ _ (by omega)).trans (zput_k _ _ _ _ _ (by omega))), rfl⟩, fun i => pT i, ⟨pn.1, pn.2⟩, pp, ⟨?_, ?_⟩, fun q => ?_, fun _ => zput_s _ _ _ _⟩
       · exact (zput_i _ _ _ _ _ (by decide)).trans ((zput_i _ _ _ _ _ (by decide)).trans (zput_s _ _ _ _))
       · exact (zput_i _ _ _ _ _ (by decide)).trans ((zput_s _ _ _ _).trans e3)
       · exfalso; have q2 : x = 0 := q; omega)
    | (have h0 : ¬ S.2.1 = 0 := by omega
       rw [pF_n h0]
       exact ⟨(zOK_put hz (by unfold zr; omega)), ⟨fun q hq i => by have hq2 := hq; dsimp only at hq2; exact (zput_k _ _ _ _ _ (by omega)), rfl⟩, fun i => pT i, ⟨pn.1, pn.2⟩, pp, ⟨p5, p6⟩, fun q => absurd q h0, fun _ => zput_s _ _ _ _⟩)
  · have h4 := zb_n.mp h4
    refine zx_aloadN dX6_fail_7 rfl rfl ?_
    refine zx_iloadN dX6_fail_8 rfl rfl ?_
    refine zx_putI fl_RX6_28 rfl (Or.inl fp_6_5) dX6_fail_9 ?_
    refine zx_aloadN dX6_fail_12 rfl rfl ?_
    refine zx_aloadN dX6_fail_13 rfl rfl ?_
    refine zy_getI (v := σ.1 1 3) fl_RX6_22 rfl dX6_fail_14 (zput_i _ _ _ _ _ (by omega)) ?_
    refine zx_putI fl_RX6_31 rfl (Or.inl fp_6_6) dX6_fail_17 ?_
    refine zx_aloadN dX6_fail_20 rfl rfl ?_
    refine zx_iconst dX6_fail_21 ?_
    refine zx_putI fl_RX6_19 rfl (Or.inl fp_6_2) dX6_fail_22 ?_
    refine zx_vret rfl dX6_fail_25 ?_
    rw [hQ]
    refine ⟨rfl, ?_⟩
    first
    | (have h0 : S.2.1 = 0 := by omega
       obtain ⟨e1, e2, e3, e4⟩ := ps h0
       rw [pF_0 h0]
       refine ⟨(zOK_put (zOK_put (zOK_put hz (by first | exact hz _ _ | assumption | exact zr_b _ | exact zcmp_r _ _ | (unfold zr at *; omega))) (by first | exact hz _ _ | assumption | exact zr_b _ | exact zcmp_r _ _ | (unfold zr at *; omega))) (by unfold zr; omega)), ⟨fun q hq i => by have hq2 := hq; dsimp only at hq2; exact (zput_k _ _ _ _ _ (by omega)).trans ((zput_k _ _ _ _ _ (by omega)).trans (zput_k _ _ _ _ _ (by omega))), rfl⟩, fun i => pT i, ⟨pn.1, pn.2⟩, pp, ⟨?_, ?_⟩, fun q => ?_, fun _ => zput_s _ _ _ _⟩
       · exact (zput_i _ _ _ _ _ (by decide)).trans ((zput_i _ _ _ _ _ (by decide)).trans (zput_s _ _ _ _))
       · exact (zput_i _ _ _ _ _ (by decide)).trans ((zput_s _ _ _ _).trans e3)
       · exfalso; have q2 : x = 0 := q; omega)
    | (have h0 : ¬ S.2.1 = 0 := by omega
       rw [pF_n h0]
       exact ⟨(zOK_put (zOK_put (zOK_put hz (by first | exact hz _ _ | assumption | exact zr_b _ | exact zcmp_r _ _ | (unfold zr at *; omega))) (by first | exact hz _ _ | assumption | exact zr_b _ | exact zcmp_r _ _ | (unfold zr at *; omega))) (by unfold zr; omega)), ⟨fun q hq i => by have hq2 := hq; dsimp only at hq2; exact (zput_k _ _ _ _ _ (by omega)), rfl⟩, fun i => pT i, ⟨pn.1, pn.2⟩, pp, ⟨p5, p6⟩, fun q => absurd q h0, fun _ => zput_s _ _ _ _⟩)
set_option maxRecDepth 20000 in
set_option maxHeartbeats 2000000 in
theorem sX6_takeToken_e {l : Launch} {w : zW} (hfl : l.stackTraces = false) {σ : zS} {t : Nat → Int} {n : Nat} {e : Nat} (hz : zOK σ) (hT : ∀ i : Nat, σ.1 2 i = t i) (hn : σ.1 1 1 = (n : Int) ∧ n ≤ 1400) (he : σ.1 1 4 = (e : Int) ∧ e ≤ n) (h5 : σ.1 1 5 = 0 ∧ σ.1 1 6 = -1) : Sp l w mX6_takeToken 1 0 [zf 6 1] σ (zqv (none) (fun τ => zOK τ ∧ zSame (fun q => q = 1) σ τ ∧ PC t n (e, 0, -1) τ)) := by
  obtain ⟨Q, hQ⟩ : ∃ Q : zQ, Q = (zqv (none) (fun τ => zOK τ ∧ zSame (fun q => q = 1) σ τ ∧ PC t n (e, 0, -1) τ)) := ⟨_, rfl⟩
  rw [← hQ]
  refine zx_enter hfl (by decide) rfl 1 rfl ?_
  show zX l w mX6_takeToken (zMQ w 1 0 Q) 0 [zf 6 1, zu] [] 0 σ
  have hbr : ∀ i, zr (kb (t i)) := fun i => by have := kb_r (t i); unfold zr; omega
  refine zx_aloadN dX6_takeToken_0 rfl rfl ?_
  refine zy_getI fl_RX6_25 rfl dX6_takeToken_1 rfl ?_
  refine zy_top (b := ((e : Nat) : Int)) (he.1) ?_
  refine zy_istoreN [zf 6 1, zi ((e : Nat) : Int)] dX6_takeToken_4 rfl (Nat.le_of_ble_eq_true rfl) (Nat.le_of_ble_eq_true rfl) rfl rfl ?_
  have L5 : ∀ (N : Nat) (i : Nat), (e ≤ i ∧ i ≤ n) → (xS t n e = rnE (isSp t) n i) → (n + 1 - i) < N → zX l w mX6_takeToken (zMQ w 1 0 Q) 5 [zf 6 1, zi ((i : Nat) : Int)] [] 0 σ := by
    intro N
    induction N with
    | zero => intro i _ _ _; exact absurd (by assumption) (Nat.not_lt_zero _)
    | succ N ih5 =>
      intro i hi hr hN
      refine zx_iloadN dX6_takeToken_5 rfl rfl ?_
      refine zx_aloadN dX6_takeToken_6 rfl rfl ?_
      refine zy_getI fl_RX6_15 rfl dX6_takeToken_7 rfl ?_
      refine zx_icmp_ge (tgt := 30) (by first | exact hz _ _ | assumption | exact zr_b _ | exact zcmp_r _ _ | exact hbr _ | (unfold zr at *; omega)) (by first | exact hz _ _ | assumption | exact zr_b _ | exact zcmp_r _ _ | exact hbr _ | (unfold zr at *; omega)) dX6_takeToken_10 (by decide) (fun h10 => ?_) (fun h10 => ?_)
      · have hS : xS t n e = i := by
          rw [hr]; refine rnE_n ?_; rintro ⟨a, b⟩; unfold isSp at b; rw [← hT i] at b; first | omega | exact absurd b (by assumption)
        refine zx_aloadN dX6_takeToken_30 rfl rfl ?_
        refine zx_iloadN dX6_takeToken_31 rfl rfl ?_
        refine zx_putI fl_RX6_22 rfl (Or.inl fp_6_3) dX6_takeToken_32 ?_
        refine zx_aloadN dX6_takeToken_35 rfl rfl ?_
        refine zx_iloadN dX6_takeToken_36 rfl rfl ?_
        refine zx_putI fl_RX6_25 rfl (Or.inl fp_6_4) dX6_takeToken_37 ?_
        refine zx_iloadN dX6_takeToken_40 rfl rfl ?_
        refine zx_aloadN dX6_takeToken_41 rfl rfl ?_
        refine zy_getI (v := σ.1 1 1) fl_RX6_15 rfl dX6_takeToken_42 ((zput_i _ _ _ _ _ (by omega)).trans (zput_i _ _ _ _ _ (by omega))) ?_
        refine zx_icmp_lt (tgt := 54) (by first | exact hz _ _ | assumption | exact zr_b _ | exact zcmp_r _ _ | exact hbr _ | (unfold zr at *; omega)) (by first | exact hz _ _ | assumption | exact zr_b _ | exact zcmp_r _ _ | exact hbr _ | (unfold zr at *; omega)) dX6_takeToken_45 (by decide) (fun h45 => ?_) (fun h45 => ?_)
        · have hin : i < n := by omega
          have hKk : xK t n e = kb (t i) := by unfold xK; rw [hS, if_neg (by omega)]
          have hkr := kb_r (t i)
          refine zx_aloadN dX6_takeToken_54 rfl rfl ?_
          refine zx_aloadN dX6_takeToken_55 rfl rfl ?_
          refine zy_getR (q' := 2) fl_RX6_9 rfl dX6_takeToken_56 rfl ?_
          refine zx_iloadN dX6_takeToken_59 rfl rfl ?_
          refine zy_bald (v := σ.1 2 i) rfl (by decide) (by decide) dX6_takeToken_60 (by omega) (by omega) ((zput_k _ _ _ _ _ (by omega)).trans (zput_k _ _ _ _ _ (by omega))) ?_
          refine zy_cs [zi (σ.1 2 i)] (sX6_kindOfByte  hfl (zOK_put (zOK_put hz (by first | exact hz _ _ | assumption | exact zr_b _ | exact zcmp_r _ _ | exact hbr _ | (unfold zr at *; omega))) (by first | exact hz _ _ | assumption | exact zr_b _ | exact zcmp_r _ _ | exact hbr _ | (unfold zr at *; omega))) (by first | exact hz _ _ | assumption | exact zr_b _ | exact zcmp_r _ _ | exact hbr _ | (unfold zr at *; omega))) dX6_takeToken_61 cw_RX6_54 okX6_kindOfByte rfl (Nat.le_of_ble_eq_true rfl) ⟨Nat.le_of_ble_eq_true rfl, Nat.le_of_ble_eq_true rfl, Nat.le_of_ble_eq_true rfl, Nat.le_of_ble_eq_true rfl⟩ ?_
          refine zy_top (b := kb (t i)) (by rw [hT i]) ?_
          refine zx_putI fl_RX6_19 rfl (Or.inl fp_6_2) dX6_takeToken_64 ?_
          refine zx_aloadN dX6_takeToken_67 rfl rfl ?_
          refine zx_dup rfl dX6_takeToken_68 ?_
          refine zy_getI (v := ((i : Nat) : Int)) fl_RX6_25 rfl dX6_takeToken_69 ((zput_i _ _ _ _ _ (by omega)).trans (zput_s _ _ _ _)) ?_
          refine zx_iconst dX6_takeToken_72 ?_
          refine zx_iadd dX6_takeToken_73 ?_
          refine zx_putI fl_RX6_25 rfl (Or.inl fp_6_4) dX6_takeToken_74 ?_
          refine zx_aloadN dX6_takeToken_77 rfl rfl ?_
          refine zy_getI (v := kb (t i)) fl_RX6_19 rfl dX6_takeToken_78 ((zput_i _ _ _ _ _ (by omega)).trans (zput_s _ _ _ _)) ?_
          refine zx_iconst dX6_takeToken_81 ?_
          refine zx_icmp_eq (tgt := 93) (by first | exact hz _ _ | assumption | exact zr_b _ | exact zcmp_r _ _ | exact hbr _ | (unfold zr at *; omega)) (by first | exact hz _ _ | assumption | exact zr_b _ | exact zcmp_r _ _ | exact hbr _ | (unfold zr at *; omega)) dX6_takeToken_82 (by decide) (fun h82 => ?_) (fun h82 => ?_)
          · have L93 : ∀ (N : Nat) (τ : zS) (m : Nat), (zOK τ) → (zSame (fun q => q = 1) σ τ) → (τ.1 1 4 = (m : Int) ∧ i + 1 ≤ m ∧ m ≤ n) → (τ.1 1 1 = (n : Int) ∧ τ.1 1 2 = kb (t i) ∧ τ.1 1 3 = (i : Int) ∧ τ.1 1 5 = 0 ∧ τ.1 1 6 = -1) → ((kb (t i) = 1 ∧ rnE (isWd t) n i = rnE (isWd t) n m) ∨ (kb (t i) = 2 ∧ rnE (isDg t) n i = rnE (isDg t) n m)) → (n + 1 - m) < N → zX l w mX6_takeToken (zMQ w 1 0 Q) 93 [zf 6 1, zi ((i : Nat) : Int)] [] 0 τ := by
              intro N
              induction N with
              | zero => intro τ m _ _ _ _ _ _; exact absurd (by assumption) (Nat.not_lt_zero _)
              | succ N ih93 =>
                intro τ m hz h1 h2 h3 h4 hN
                have hTτ : ∀ j : Nat, τ.1 2 j = t j := fun j => (h1.1 2 (by first | omega | (dsimp only; omega)) j).trans (hT j)
                obtain ⟨q1, q2, q3, q5, q6⟩ := id h3
                have q4 := h2.1
                have hzm : zr (m : Int) := by unfold zr; omega
                refine zx_aloadN dX6_takeToken_93 rfl rfl ?_
                refine zy_getI fl_RX6_25 rfl dX6_takeToken_94 rfl ?_
                refine zx_aloadN dX6_takeToken_97 rfl rfl ?_
                refine zy_getI fl_RX6_15 rfl dX6_takeToken_98 rfl ?_
                refine zx_icmp_ge (tgt := 136) (by first | exact hz _ _ | assumption | exact zr_b _ | exact zcmp_r _ _ | exact hbr _ | (unfold zr at *; omega)) (by first | exact hz _ _ | assumption | exact zr_b _ | exact zcmp_r _ _ | exact hbr _ | (unfold zr at *; omega)) dX6_takeToken_101 (by decide) (fun h101 => ?_) (fun h101 => ?_)
                · refine zx_vret rfl dX6_takeToken_136 ?_
                  rw [hQ]
                  refine ⟨rfl, ?_⟩
                  first
                  | exact ⟨hz, ⟨fun q hq j => by have hq2 := hq; dsimp only at hq2; simp only [zput_e]; (repeat' split) <;> first | rfl | omega, rfl⟩, PC_mk (fun j => hT j) hn he.2 hS ((zput_s _ _ _ _).trans hK0.symm) ((zput_i _ _ _ _ _ (by decide)).trans ((zput_i _ _ _ _ _ (by decide)).trans (zput_s _ _ _ _))) ((zput_i _ _ _ _ _ (by decide)).trans ((zput_s _ _ _ _).trans (by rw [hE0]))) h5.1 h5.2⟩
                  | (have hE1 : xE t n e = m := by
                       unfold xE
                       rcases h4 with ⟨a, b⟩ | ⟨a, b⟩
                       · rw [hKk, a, if_neg (by decide), if_pos rfl, hS, b]
                         refine rnE_n ?_
                         rintro ⟨c, d⟩
                         have := kb_1.mpr d
                         omega
                       · rw [hKk, a, if_neg (by decide), if_neg (by decide), if_pos rfl, hS, b]
                         refine rnE_n ?_
                         rintro ⟨c, d⟩
                         have := kb_2.mpr d
                         omega
                     exact ⟨hz, h1, PC_mk hTτ ⟨q1, hn.2⟩ he.2 hS (q2.trans hKk.symm) q3 (by rw [hE1]; exact q4) q5 q6⟩)
                  | (have hE1 : xE t n e = i + 1 := by
                       unfold xE
                       rw [hKk, if_neg (by omega), if_neg (by omega), if_neg (by omega), hS]
                     refine ⟨hz, ⟨fun q hq j => by have hq2 := hq; dsimp only at hq2; simp only [zput_e]; (repeat' split) <;> first | rfl | omega, rfl⟩, PC_mk (fun j => hT j) hn he.2 hS ?_ ?_ ?_ ?_ ?_⟩ <;> simp only [zput_e] <;> simp
                     · exact hKk.symm
                     · rw [hE1]; omega
                     · exact h5.1
                     · exact h5.2)
                · refine zx_aloadN dX6_takeToken_104 rfl rfl ?_
                  refine zy_getR (q' := 2) fl_RX6_9 rfl dX6_takeToken_105 rfl ?_
                  refine zx_aloadN dX6_takeToken_108 rfl rfl ?_
                  refine zy_getI fl_RX6_25 rfl dX6_takeToken_109 rfl ?_
                  refine zy_top (b := ((m : Nat) : Int)) (q4) ?_
                  refine zy_bald (v := τ.1 2 m) rfl (by decide) (by decide) dX6_takeToken_112 (by omega) (by omega) rfl ?_
                  refine zy_cs [zi (τ.1 2 m)] (sX6_kindOfByte  hfl hz (by first | exact hz _ _ | assumption | exact zr_b _ | exact zcmp_r _ _ | exact hbr _ | (unfold zr at *; omega))) dX6_takeToken_113 cw_RX6_54 okX6_kindOfByte rfl (Nat.le_of_ble_eq_true rfl) ⟨Nat.le_of_ble_eq_true rfl, Nat.le_of_ble_eq_true rfl, Nat.le_of_ble_eq_true rfl, Nat.le_of_ble_eq_true rfl⟩ ?_
                  refine zy_top (b := kb (t m)) (by rw [hTτ m]) ?_
                  refine zx_aloadN dX6_takeToken_116 rfl rfl ?_
                  refine zy_getI fl_RX6_19 rfl dX6_takeToken_117 rfl ?_
                  refine zy_top (b := kb (t i)) (q2) ?_
                  refine zx_icmp_ne (tgt := 136) (by first | exact hz _ _ | assumption | exact zr_b _ | exact zcmp_r _ _ | exact hbr _ | (unfold zr at *; omega)) (by first | exact hz _ _ | assumption | exact zr_b _ | exact zcmp_r _ _ | exact hbr _ | (unfold zr at *; omega)) dX6_takeToken_120 (by decide) (fun h120 => ?_) (fun h120 => ?_)
                  · refine zx_vret rfl dX6_takeToken_136 ?_
                    rw [hQ]
                    refine ⟨rfl, ?_⟩
                    first
                    | exact ⟨hz, ⟨fun q hq j => by have hq2 := hq; dsimp only at hq2; simp only [zput_e]; (repeat' split) <;> first | rfl | omega, rfl⟩, PC_mk (fun j => hT j) hn he.2 hS ((zput_s _ _ _ _).trans hK0.symm) ((zput_i _ _ _ _ _ (by decide)).trans ((zput_i _ _ _ _ _ (by decide)).trans (zput_s _ _ _ _))) ((zput_i _ _ _ _ _ (by decide)).trans ((zput_s _ _ _ _).trans (by rw [hE0]))) h5.1 h5.2⟩
                    | (have hE1 : xE t n e = m := by
                         unfold xE
                         rcases h4 with ⟨a, b⟩ | ⟨a, b⟩
                         · rw [hKk, a, if_neg (by decide), if_pos rfl, hS, b]
                           refine rnE_n ?_
                           rintro ⟨c, d⟩
                           have := kb_1.mpr d
                           omega
                         · rw [hKk, a, if_neg (by decide), if_neg (by decide), if_pos rfl, hS, b]
                           refine rnE_n ?_
                           rintro ⟨c, d⟩
                           have := kb_2.mpr d
                           omega
                       exact ⟨hz, h1, PC_mk hTτ ⟨q1, hn.2⟩ he.2 hS (q2.trans hKk.symm) q3 (by rw [hE1]; exact q4) q5 q6⟩)
                    | (have hE1 : xE t n e = i + 1 := by
                         unfold xE
                         rw [hKk, if_neg (by omega), if_neg (by omega), if_neg (by omega), hS]
                       refine ⟨hz, ⟨fun q hq j => by have hq2 := hq; dsimp only at hq2; simp only [zput_e]; (repeat' split) <;> first | rfl | omega, rfl⟩, PC_mk (fun j => hT j) hn he.2 hS ?_ ?_ ?_ ?_ ?_⟩ <;> simp only [zput_e] <;> simp
                       · exact hKk.symm
                       · rw [hE1]; omega
                       · exact h5.1
                       · exact h5.2)
                  · refine zx_aloadN dX6_takeToken_123 rfl rfl ?_
                    refine zx_dup rfl dX6_takeToken_124 ?_
                    refine zy_getI fl_RX6_25 rfl dX6_takeToken_125 rfl ?_
                    refine zx_iconst dX6_takeToken_128 ?_
                    refine zx_iadd dX6_takeToken_129 ?_
                    refine zx_putI fl_RX6_25 rfl (Or.inl fp_6_4) dX6_takeToken_130 ?_
                    refine zx_goto (tgt := 93) dX6_takeToken_133 (by decide) ?_
                    exact ih93 (zput τ 1 4 ((τ.1 1 4) + 1)) (m + 1) (zOK_put hz (by first | exact hz _ _ | assumption | exact zr_b _ | exact zcmp_r _ _ | exact hbr _ | (unfold zr at *; omega))) (⟨fun q hq j => by have hq2 := hq; dsimp only at hq2; exact (zput_k _ _ _ _ _ (by omega)).trans (h1.1 q hq j), h1.2⟩) (⟨(zput_s _ _ _ _).trans (by omega), by omega, by omega⟩) (⟨(zput_i _ _ _ _ _ (by decide)).trans h3.1, (zput_i _ _ _ _ _ (by decide)).trans h3.2.1, (zput_i _ _ _ _ _ (by decide)).trans h3.2.2.1, (zput_i _ _ _ _ _ (by decide)).trans h3.2.2.2.1, (zput_i _ _ _ _ _ (by decide)).trans h3.2.2.2.2⟩) (by
                            have hk : kb (t m) = kb (t i) := by omega
                            rcases h4 with ⟨a, b⟩ | ⟨a, b⟩
                            · exact Or.inl ⟨a, b.trans (rnE_y (by omega) (kb_1.mp (hk.trans a)))⟩
                            · exact Or.inr ⟨a, b.trans (rnE_y (by omega) (kb_2.mp (hk.trans a)))⟩) (by omega)
            exact L93 _ (zput (zput (zput (zput σ 1 3 ((i : Nat) : Int)) 1 4 ((i : Nat) : Int)) 1 2 (kb (t i))) 1 4 (((i : Nat) : Int) + 1)) (i + 1) (zOK_put (zOK_put (zOK_put (zOK_put hz (by first | exact hz _ _ | assumption | exact zr_b _ | exact zcmp_r _ _ | exact hbr _ | (unfold zr at *; omega))) (by first | exact hz _ _ | assumption | exact zr_b _ | exact zcmp_r _ _ | exact hbr _ | (unfold zr at *; omega))) (by first | exact hz _ _ | assumption | exact zr_b _ | exact zcmp_r _ _ | exact hbr _ | (unfold zr at *; omega))) (by first | exact hz _ _ | assumption | exact zr_b _ | exact zcmp_r _ _ | exact hbr _ | (unfold zr at *; omega))) (⟨fun q hq j => by have hq2 := hq; dsimp only at hq2; simp only [zput_e]; (repeat' split) <;> first | rfl | omega, rfl⟩) (⟨(zput_s _ _ _ _).trans (by omega), by omega, by omega⟩) (by simp only [zput_e]; refine ⟨?_, ?_, ?_, ?_, ?_⟩ <;> simp <;> first | exact hn.1 | exact h5.1 | exact h5.2) (by first | exact Or.inl ⟨by assumption, rnE_y hin (kb_1.mp (by assumption))⟩ | exact Or.inr ⟨by assumption, rnE_y hin (kb_2.mp (by assumption))⟩) (Nat.lt_succ_self _)
          · refine zx_aloadN dX6_takeToken_85 rfl rfl ?_
            refine zy_getI (v := kb (t i)) fl_RX6_19 rfl dX6_takeToken_86 ((zput_i _ _ _ _ _ (by omega)).trans (zput_s _ _ _ _)) ?_
            refine zx_iconst dX6_takeToken_89 ?_
            refine zx_icmp_ne (tgt := 136) (by first | exact hz _ _ | assumption | exact zr_b _ | exact zcmp_r _ _ | exact hbr _ | (unfold zr at *; omega)) (by first | exact hz _ _ | assumption | exact zr_b _ | exact zcmp_r _ _ | exact hbr _ | (unfold zr at *; omega)) dX6_takeToken_90 (by decide) (fun h90 => ?_) (fun h90 => ?_)
            · refine zx_vret rfl dX6_takeToken_136 ?_
              rw [hQ]
              refine ⟨rfl, ?_⟩
              first
              | exact ⟨(zOK_put (zOK_put (zOK_put (zOK_put hz (by first | exact hz _ _ | assumption | exact zr_b _ | exact zcmp_r _ _ | exact hbr _ | (unfold zr at *; omega))) (by first | exact hz _ _ | assumption | exact zr_b _ | exact zcmp_r _ _ | exact hbr _ | (unfold zr at *; omega))) (by first | exact hz _ _ | assumption | exact zr_b _ | exact zcmp_r _ _ | exact hbr _ | (unfold zr at *; omega))) (by first | exact hz _ _ | assumption | exact zr_b _ | exact zcmp_r _ _ | exact hbr _ | (unfold zr at *; omega))), ⟨fun q hq j => by have hq2 := hq; dsimp only at hq2; simp only [zput_e]; (repeat' split) <;> first | rfl | omega, rfl⟩, PC_mk (fun j => hT j) hn he.2 hS ((zput_s _ _ _ _).trans hK0.symm) ((zput_i _ _ _ _ _ (by decide)).trans ((zput_i _ _ _ _ _ (by decide)).trans (zput_s _ _ _ _))) ((zput_i _ _ _ _ _ (by decide)).trans ((zput_s _ _ _ _).trans (by rw [hE0]))) h5.1 h5.2⟩
              | (have hE1 : xE t n e = m := by
                   unfold xE
                   rcases h4 with ⟨a, b⟩ | ⟨a, b⟩
                   · rw [hKk, a, if_neg (by decide), if_pos rfl, hS, b]
                     refine rnE_n ?_
                     rintro ⟨c, d⟩
                     have := kb_1.mpr d
                     omega
                   · rw [hKk, a, if_neg (by decide), if_neg (by decide), if_pos rfl, hS, b]
                     refine rnE_n ?_
                     rintro ⟨c, d⟩
                     have := kb_2.mpr d
                     omega
                 exact ⟨(zOK_put (zOK_put (zOK_put (zOK_put hz (by first | exact hz _ _ | assumption | exact zr_b _ | exact zcmp_r _ _ | exact hbr _ | (unfold zr at *; omega))) (by first | exact hz _ _ | assumption | exact zr_b _ | exact zcmp_r _ _ | exact hbr _ | (unfold zr at *; omega))) (by first | exact hz _ _ | assumption | exact zr_b _ | exact zcmp_r _ _ | exact hbr _ | (unfold zr at *; omega))) (by first | exact hz _ _ | assumption | exact zr_b _ | exact zcmp_r _ _ | exact hbr _ | (unfold zr at *; omega))), h1, PC_mk hTτ ⟨q1, hn.2⟩ he.2 hS (q2.trans hKk.symm) q3 (by rw [hE1]; exact q4) q5 q6⟩)
              | (have hE1 : xE t n e = i + 1 := by
                   unfold xE
                   rw [hKk, if_neg (by omega), if_neg (by omega), if_neg (by omega), hS]
                 refine ⟨(zOK_put (zOK_put (zOK_put (zOK_put hz (by first | exact hz _ _ | assumption | exact zr_b _ | exact zcmp_r _ _ | exact hbr _ | (unfold zr at *; omega))) (by first | exact hz _ _ | assumption | exact zr_b _ | exact zcmp_r _ _ | exact hbr _ | (unfold zr at *; omega))) (by first | exact hz _ _ | assumption | exact zr_b _ | exact zcmp_r _ _ | exact hbr _ | (unfold zr at *; omega))) (by first | exact hz _ _ | assumption | exact zr_b _ | exact zcmp_r _ _ | exact hbr _ | (unfold zr at *; omega))), ⟨fun q hq j => by have hq2 := hq; dsimp only at hq2; simp only [zput_e]; (repeat' split) <;> first | rfl | omega, rfl⟩, PC_mk (fun j => hT j) hn he.2 hS ?_ ?_ ?_ ?_ ?_⟩ <;> simp only [zput_e] <;> simp
                 · exact hKk.symm
                 · rw [hE1]; omega
                 · exact h5.1
                 · exact h5.2)
            · have L93 : ∀ (N : Nat) (τ : zS) (m : Nat), (zOK τ) → (zSame (fun q => q = 1) σ τ) → (τ.1 1 4 = (m : Int) ∧ i + 1 ≤ m ∧ m ≤ n) → (τ.1 1 1 = (n : Int) ∧ τ.1 1 2 = kb (t i) ∧ τ.1 1 3 = (i : Int) ∧ τ.1 1 5 = 0 ∧ τ.1 1 6 = -1) → ((kb (t i) = 1 ∧ rnE (isWd t) n i = rnE (isWd t) n m) ∨ (kb (t i) = 2 ∧ rnE (isDg t) n i = rnE (isDg t) n m)) → (n + 1 - m) < N → zX l w mX6_takeToken (zMQ w 1 0 Q) 93 [zf 6 1, zi ((i : Nat) : Int)] [] 0 τ := by
                intro N
                induction N with
                | zero => intro τ m _ _ _ _ _ _; exact absurd (by assumption) (Nat.not_lt_zero _)
                | succ N ih93 =>
                  intro τ m hz h1 h2 h3 h4 hN
                  have hTτ : ∀ j : Nat, τ.1 2 j = t j := fun j => (h1.1 2 (by first | omega | (dsimp only; omega)) j).trans (hT j)
                  obtain ⟨q1, q2, q3, q5, q6⟩ := id h3
                  have q4 := h2.1
                  have hzm : zr (m : Int) := by unfold zr; omega
                  refine zx_aloadN dX6_takeToken_93 rfl rfl ?_
                  refine zy_getI fl_RX6_25 rfl dX6_takeToken_94 rfl ?_
                  refine zx_aloadN dX6_takeToken_97 rfl rfl ?_
                  refine zy_getI fl_RX6_15 rfl dX6_takeToken_98 rfl ?_
                  refine zx_icmp_ge (tgt := 136) (by first | exact hz _ _ | assumption | exact zr_b _ | exact zcmp_r _ _ | exact hbr _ | (unfold zr at *; omega)) (by first | exact hz _ _ | assumption | exact zr_b _ | exact zcmp_r _ _ | exact hbr _ | (unfold zr at *; omega)) dX6_takeToken_101 (by decide) (fun h101 => ?_) (fun h101 => ?_)
                  · refine zx_vret rfl dX6_takeToken_136 ?_
                    rw [hQ]
                    refine ⟨rfl, ?_⟩
                    first
                    | exact ⟨hz, ⟨fun q hq j => by have hq2 := hq; dsimp only at hq2; simp only [zput_e]; (repeat' split) <;> first | rfl | omega, rfl⟩, PC_mk (fun j => hT j) hn he.2 hS ((zput_s _ _ _ _).trans hK0.symm) ((zput_i _ _ _ _ _ (by decide)).trans ((zput_i _ _ _ _ _ (by decide)).trans (zput_s _ _ _ _))) ((zput_i _ _ _ _ _ (by decide)).trans ((zput_s _ _ _ _).trans (by rw [hE0]))) h5.1 h5.2⟩
                    | (have hE1 : xE t n e = m := by
                         unfold xE
                         rcases h4 with ⟨a, b⟩ | ⟨a, b⟩
                         · rw [hKk, a, if_neg (by decide), if_pos rfl, hS, b]
                           refine rnE_n ?_
                           rintro ⟨c, d⟩
                           have := kb_1.mpr d
                           omega
                         · rw [hKk, a, if_neg (by decide), if_neg (by decide), if_pos rfl, hS, b]
                           refine rnE_n ?_
                           rintro ⟨c, d⟩
                           have := kb_2.mpr d
                           omega
                       exact ⟨hz, h1, PC_mk hTτ ⟨q1, hn.2⟩ he.2 hS (q2.trans hKk.symm) q3 (by rw [hE1]; exact q4) q5 q6⟩)
                    | (have hE1 : xE t n e = i + 1 := by
                         unfold xE
                         rw [hKk, if_neg (by omega), if_neg (by omega), if_neg (by omega), hS]
                       refine ⟨hz, ⟨fun q hq j => by have hq2 := hq; dsimp only at hq2; simp only [zput_e]; (repeat' split) <;> first | rfl | omega, rfl⟩, PC_mk (fun j => hT j) hn he.2 hS ?_ ?_ ?_ ?_ ?_⟩ <;> simp only [zput_e] <;> simp
                       · exact hKk.symm
                       · rw [hE1]; omega
                       · exact h5.1
                       · exact h5.2)
                  · refine zx_aloadN dX6_takeToken_104 rfl rfl ?_
                    refine zy_getR (q' := 2) fl_RX6_9 rfl dX6_takeToken_105 rfl ?_
                    refine zx_aloadN dX6_takeToken_108 rfl rfl ?_
                    refine zy_getI fl_RX6_25 rfl dX6_takeToken_109 rfl ?_
                    refine zy_top (b := ((m : Nat) : Int)) (q4) ?_
                    refine zy_bald (v := τ.1 2 m) rfl (by decide) (by decide) dX6_takeToken_112 (by omega) (by omega) rfl ?_
                    refine zy_cs [zi (τ.1 2 m)] (sX6_kindOfByte  hfl hz (by first | exact hz _ _ | assumption | exact zr_b _ | exact zcmp_r _ _ | exact hbr _ | (unfold zr at *; omega))) dX6_takeToken_113 cw_RX6_54 okX6_kindOfByte rfl (Nat.le_of_ble_eq_true rfl) ⟨Nat.le_of_ble_eq_true rfl, Nat.le_of_ble_eq_true rfl, Nat.le_of_ble_eq_true rfl, Nat.le_of_ble_eq_true rfl⟩ ?_
                    refine zy_top (b := kb (t m)) (by rw [hTτ m]) ?_
                    refine zx_aloadN dX6_takeToken_116 rfl rfl ?_
                    refine zy_getI fl_RX6_19 rfl dX6_takeToken_117 rfl ?_
                    refine zy_top (b := kb (t i)) (q2) ?_
                    refine zx_icmp_ne (tgt := 136) (by first | exact hz _ _ | assumption | exact zr_b _ | exact zcmp_r _ _ | exact hbr _ | (unfold zr at *; omega)) (by first | exact hz _ _ | assumption | exact zr_b _ | exact zcmp_r _ _ | exact hbr _ | (unfold zr at *; omega)) dX6_takeToken_120 (by decide) (fun h120 => ?_) (fun h120 => ?_)
                    · refine zx_vret rfl dX6_takeToken_136 ?_
                      rw [hQ]
                      refine ⟨rfl, ?_⟩
                      first
                      | exact ⟨hz, ⟨fun q hq j => by have hq2 := hq; dsimp only at hq2; simp only [zput_e]; (repeat' split) <;> first | rfl | omega, rfl⟩, PC_mk (fun j => hT j) hn he.2 hS ((zput_s _ _ _ _).trans hK0.symm) ((zput_i _ _ _ _ _ (by decide)).trans ((zput_i _ _ _ _ _ (by decide)).trans (zput_s _ _ _ _))) ((zput_i _ _ _ _ _ (by decide)).trans ((zput_s _ _ _ _).trans (by rw [hE0]))) h5.1 h5.2⟩
                      | (have hE1 : xE t n e = m := by
                           unfold xE
                           rcases h4 with ⟨a, b⟩ | ⟨a, b⟩
                           · rw [hKk, a, if_neg (by decide), if_pos rfl, hS, b]
                             refine rnE_n ?_
                             rintro ⟨c, d⟩
                             have := kb_1.mpr d
                             omega
                           · rw [hKk, a, if_neg (by decide), if_neg (by decide), if_pos rfl, hS, b]
                             refine rnE_n ?_
                             rintro ⟨c, d⟩
                             have := kb_2.mpr d
                             omega
                         exact ⟨hz, h1, PC_mk hTτ ⟨q1, hn.2⟩ he.2 hS (q2.trans hKk.symm) q3 (by rw [hE1]; exact q4) q5 q6⟩)
                      | (have hE1 : xE t n e = i + 1 := by
                           unfold xE
                           rw [hKk, if_neg (by omega), if_neg (by omega), if_neg (by omega), hS]
                         refine ⟨hz, ⟨fun q hq j => by have hq2 := hq; dsimp only at hq2; simp only [zput_e]; (repeat' split) <;> first | rfl | omega, rfl⟩, PC_mk (fun j => hT j) hn he.2 hS ?_ ?_ ?_ ?_ ?_⟩ <;> simp only [zput_e] <;> simp
                         · exact hKk.symm
                         · rw [hE1]; omega
                         · exact h5.1
                         · exact h5.2)
                    · refine zx_aloadN dX6_takeToken_123 rfl rfl ?_
                      refine zx_dup rfl dX6_takeToken_124 ?_
                      refine zy_getI fl_RX6_25 rfl dX6_takeToken_125 rfl ?_
                      refine zx_iconst dX6_takeToken_128 ?_
                      refine zx_iadd dX6_takeToken_129 ?_
                      refine zx_putI fl_RX6_25 rfl (Or.inl fp_6_4) dX6_takeToken_130 ?_
                      refine zx_goto (tgt := 93) dX6_takeToken_133 (by decide) ?_
                      exact ih93 (zput τ 1 4 ((τ.1 1 4) + 1)) (m + 1) (zOK_put hz (by first | exact hz _ _ | assumption | exact zr_b _ | exact zcmp_r _ _ | exact hbr _ | (unfold zr at *; omega))) (⟨fun q hq j => by have hq2 := hq; dsimp only at hq2; exact (zput_k _ _ _ _ _ (by omega)).trans (h1.1 q hq j), h1.2⟩) (⟨(zput_s _ _ _ _).trans (by omega), by omega, by omega⟩) (⟨(zput_i _ _ _ _ _ (by decide)).trans h3.1, (zput_i _ _ _ _ _ (by decide)).trans h3.2.1, (zput_i _ _ _ _ _ (by decide)).trans h3.2.2.1, (zput_i _ _ _ _ _ (by decide)).trans h3.2.2.2.1, (zput_i _ _ _ _ _ (by decide)).trans h3.2.2.2.2⟩) (by
                              have hk : kb (t m) = kb (t i) := by omega
                              rcases h4 with ⟨a, b⟩ | ⟨a, b⟩
                              · exact Or.inl ⟨a, b.trans (rnE_y (by omega) (kb_1.mp (hk.trans a)))⟩
                              · exact Or.inr ⟨a, b.trans (rnE_y (by omega) (kb_2.mp (hk.trans a)))⟩) (by omega)
              exact L93 _ (zput (zput (zput (zput σ 1 3 ((i : Nat) : Int)) 1 4 ((i : Nat) : Int)) 1 2 (kb (t i))) 1 4 (((i : Nat) : Int) + 1)) (i + 1) (zOK_put (zOK_put (zOK_put (zOK_put hz (by first | exact hz _ _ | assumption | exact zr_b _ | exact zcmp_r _ _ | exact hbr _ | (unfold zr at *; omega))) (by first | exact hz _ _ | assumption | exact zr_b _ | exact zcmp_r _ _ | exact hbr _ | (unfold zr at *; omega))) (by first | exact hz _ _ | assumption | exact zr_b _ | exact zcmp_r _ _ | exact hbr _ | (unfold zr at *; omega))) (by first | exact hz _ _ | assumption | exact zr_b _ | exact zcmp_r _ _ | exact hbr _ | (unfold zr at *; omega))) (⟨fun q hq j => by have hq2 := hq; dsimp only at hq2; simp only [zput_e]; (repeat' split) <;> first | rfl | omega, rfl⟩) (⟨(zput_s _ _ _ _).trans (by omega), by omega, by omega⟩) (by simp only [zput_e]; refine ⟨?_, ?_, ?_, ?_, ?_⟩ <;> simp <;> first | exact hn.1 | exact h5.1 | exact h5.2) (by first | exact Or.inl ⟨by assumption, rnE_y hin (kb_1.mp (by assumption))⟩ | exact Or.inr ⟨by assumption, rnE_y hin (kb_2.mp (by assumption))⟩) (Nat.lt_succ_self _)
        · have hK0 : xK t n e = 0 := by unfold xK; rw [hS, if_pos (by omega)]
          have hE0 : xE t n e = i := by unfold xE; rw [if_pos hK0]; exact hS
          refine zx_aloadN dX6_takeToken_48 rfl rfl ?_
          refine zx_iconst dX6_takeToken_49 ?_
          refine zx_putI fl_RX6_19 rfl (Or.inl fp_6_2) dX6_takeToken_50 ?_
          refine zx_vret rfl dX6_takeToken_53 ?_
          rw [hQ]
          refine ⟨rfl, ?_⟩
          first
          | exact ⟨(zOK_put (zOK_put (zOK_put hz (by first | exact hz _ _ | assumption | exact zr_b _ | exact zcmp_r _ _ | exact hbr _ | (unfold zr at *; omega))) (by first | exact hz _ _ | assumption | exact zr_b _ | exact zcmp_r _ _ | exact hbr _ | (unfold zr at *; omega))) (by unfold zr; omega)), ⟨fun q hq j => by have hq2 := hq; dsimp only at hq2; simp only [zput_e]; (repeat' split) <;> first | rfl | omega, rfl⟩, PC_mk (fun j => hT j) hn he.2 hS ((zput_s _ _ _ _).trans hK0.symm) ((zput_i _ _ _ _ _ (by decide)).trans ((zput_i _ _ _ _ _ (by decide)).trans (zput_s _ _ _ _))) ((zput_i _ _ _ _ _ (by decide)).trans ((zput_s _ _ _ _).trans (by rw [hE0]))) h5.1 h5.2⟩
          | (have hE1 : xE t n e = m := by
               unfold xE
               rcases h4 with ⟨a, b⟩ | ⟨a, b⟩
               · rw [hKk, a, if_neg (by decide), if_pos rfl, hS, b]
                 refine rnE_n ?_
                 rintro ⟨c, d⟩
                 have := kb_1.mpr d
                 omega
               · rw [hKk, a, if_neg (by decide), if_neg (by decide), if_pos rfl, hS, b]
                 refine rnE_n ?_
                 rintro ⟨c, d⟩
                 have := kb_2.mpr d
                 omega
             exact ⟨(zOK_put (zOK_put (zOK_put hz (by first | exact hz _ _ | assumption | exact zr_b _ | exact zcmp_r _ _ | exact hbr _ | (unfold zr at *; omega))) (by first | exact hz _ _ | assumption | exact zr_b _ | exact zcmp_r _ _ | exact hbr _ | (unfold zr at *; omega))) (by unfold zr; omega)), h1, PC_mk hTτ ⟨q1, hn.2⟩ he.2 hS (q2.trans hKk.symm) q3 (by rw [hE1]; exact q4) q5 q6⟩)
          | (have hE1 : xE t n e = i + 1 := by
               unfold xE
               rw [hKk, if_neg (by omega), if_neg (by omega), if_neg (by omega), hS]
             refine ⟨(zOK_put (zOK_put (zOK_put hz (by first | exact hz _ _ | assumption | exact zr_b _ | exact zcmp_r _ _ | exact hbr _ | (unfold zr at *; omega))) (by first | exact hz _ _ | assumption | exact zr_b _ | exact zcmp_r _ _ | exact hbr _ | (unfold zr at *; omega))) (by unfold zr; omega)), ⟨fun q hq j => by have hq2 := hq; dsimp only at hq2; simp only [zput_e]; (repeat' split) <;> first | rfl | omega, rfl⟩, PC_mk (fun j => hT j) hn he.2 hS ?_ ?_ ?_ ?_ ?_⟩ <;> simp only [zput_e] <;> simp
             · exact hKk.symm
             · rw [hE1]; omega
             · exact h5.1
             · exact h5.2)
      · refine zx_aloadN dX6_takeToken_13 rfl rfl ?_
        refine zy_getR (q' := 2) fl_RX6_9 rfl dX6_takeToken_14 rfl ?_
        refine zx_iloadN dX6_takeToken_17 rfl rfl ?_
        refine zy_bald (v := σ.1 2 i) rfl (by decide) (by decide) dX6_takeToken_18 (by omega) (by omega) rfl ?_
        refine zx_bipush dX6_takeToken_19 rfl ?_
        refine zx_icmp_ne (tgt := 30) (by first | exact hz _ _ | assumption | exact zr_b _ | exact zcmp_r _ _ | exact hbr _ | (unfold zr at *; omega)) (by first | exact hz _ _ | assumption | exact zr_b _ | exact zcmp_r _ _ | exact hbr _ | (unfold zr at *; omega)) dX6_takeToken_21 (by decide) (fun h21 => ?_) (fun h21 => ?_)
        · have hS : xS t n e = i := by
            rw [hr]; refine rnE_n ?_; rintro ⟨a, b⟩; unfold isSp at b; rw [← hT i] at b; first | omega | exact absurd b (by assumption)
          refine zx_aloadN dX6_takeToken_30 rfl rfl ?_
          refine zx_iloadN dX6_takeToken_31 rfl rfl ?_
          refine zx_putI fl_RX6_22 rfl (Or.inl fp_6_3) dX6_takeToken_32 ?_
          refine zx_aloadN dX6_takeToken_35 rfl rfl ?_
          refine zx_iloadN dX6_takeToken_36 rfl rfl ?_
          refine zx_putI fl_RX6_25 rfl (Or.inl fp_6_4) dX6_takeToken_37 ?_
          refine zx_iloadN dX6_takeToken_40 rfl rfl ?_
          refine zx_aloadN dX6_takeToken_41 rfl rfl ?_
          refine zy_getI (v := σ.1 1 1) fl_RX6_15 rfl dX6_takeToken_42 ((zput_i _ _ _ _ _ (by omega)).trans (zput_i _ _ _ _ _ (by omega))) ?_
          refine zx_icmp_lt (tgt := 54) (by first | exact hz _ _ | assumption | exact zr_b _ | exact zcmp_r _ _ | exact hbr _ | (unfold zr at *; omega)) (by first | exact hz _ _ | assumption | exact zr_b _ | exact zcmp_r _ _ | exact hbr _ | (unfold zr at *; omega)) dX6_takeToken_45 (by decide) (fun h45 => ?_) (fun h45 => ?_)
          · have hin : i < n := by omega
            have hKk : xK t n e = kb (t i) := by unfold xK; rw [hS, if_neg (by omega)]
            have hkr := kb_r (t i)
            refine zx_aloadN dX6_takeToken_54 rfl rfl ?_
            refine zx_aloadN dX6_takeToken_55 rfl rfl ?_
            refine zy_getR (q' := 2) fl_RX6_9 rfl dX6_takeToken_56 rfl ?_
            refine zx_iloadN dX6_takeToken_59 rfl rfl ?_
            refine zy_bald (v := σ.1 2 i) rfl (by decide) (by decide) dX6_takeToken_60 (by omega) (by omega) ((zput_k _ _ _ _ _ (by omega)).trans (zput_k _ _ _ _ _ (by omega))) ?_
            refine zy_cs [zi (σ.1 2 i)] (sX6_kindOfByte  hfl (zOK_put (zOK_put hz (by first | exact hz _ _ | assumption | exact zr_b _ | exact zcmp_r _ _ | exact hbr _ | (unfold zr at *; omega))) (by first | exact hz _ _ | assumption | exact zr_b _ | exact zcmp_r _ _ | exact hbr _ | (unfold zr at *; omega))) (by first | exact hz _ _ | assumption | exact zr_b _ | exact zcmp_r _ _ | exact hbr _ | (unfold zr at *; omega))) dX6_takeToken_61 cw_RX6_54 okX6_kindOfByte rfl (Nat.le_of_ble_eq_true rfl) ⟨Nat.le_of_ble_eq_true rfl, Nat.le_of_ble_eq_true rfl, Nat.le_of_ble_eq_true rfl, Nat.le_of_ble_eq_true rfl⟩ ?_
            refine zy_top (b := kb (t i)) (by rw [hT i]) ?_
            refine zx_putI fl_RX6_19 rfl (Or.inl fp_6_2) dX6_takeToken_64 ?_
            refine zx_aloadN dX6_takeToken_67 rfl rfl ?_
            refine zx_dup rfl dX6_takeToken_68 ?_
            refine zy_getI (v := ((i : Nat) : Int)) fl_RX6_25 rfl dX6_takeToken_69 ((zput_i _ _ _ _ _ (by omega)).trans (zput_s _ _ _ _)) ?_
            refine zx_iconst dX6_takeToken_72 ?_
            refine zx_iadd dX6_takeToken_73 ?_
            refine zx_putI fl_RX6_25 rfl (Or.inl fp_6_4) dX6_takeToken_74 ?_
            refine zx_aloadN dX6_takeToken_77 rfl rfl ?_
            refine zy_getI (v := kb (t i)) fl_RX6_19 rfl dX6_takeToken_78 ((zput_i _ _ _ _ _ (by omega)).trans (zput_s _ _ _ _)) ?_
            refine zx_iconst dX6_takeToken_81 ?_
            refine zx_icmp_eq (tgt := 93) (by first | exact hz _ _ | assumption | exact zr_b _ | exact zcmp_r _ _ | exact hbr _ | (unfold zr at *; omega)) (by first | exact hz _ _ | assumption | exact zr_b _ | exact zcmp_r _ _ | exact hbr _ | (unfold zr at *; omega)) dX6_takeToken_82 (by decide) (fun h82 => ?_) (fun h82 => ?_)
            · have L93 : ∀ (N : Nat) (τ : zS) (m : Nat), (zOK τ) → (zSame (fun q => q = 1) σ τ) → (τ.1 1 4 = (m : Int) ∧ i + 1 ≤ m ∧ m ≤ n) → (τ.1 1 1 = (n : Int) ∧ τ.1 1 2 = kb (t i) ∧ τ.1 1 3 = (i : Int) ∧ τ.1 1 5 = 0 ∧ τ.1 1 6 = -1) → ((kb (t i) = 1 ∧ rnE (isWd t) n i = rnE (isWd t) n m) ∨ (kb (t i) = 2 ∧ rnE (isDg t) n i = rnE (isDg t) n m)) → (n + 1 - m) < N → zX l w mX6_takeToken (zMQ w 1 0 Q) 93 [zf 6 1, zi ((i : Nat) : Int)] [] 0 τ := by
                intro N
                induction N with
                | zero => intro τ m _ _ _ _ _ _; exact absurd (by assumption) (Nat.not_lt_zero _)
                | succ N ih93 =>
                  intro τ m hz h1 h2 h3 h4 hN
                  have hTτ : ∀ j : Nat, τ.1 2 j = t j := fun j => (h1.1 2 (by first | omega | (dsimp only; omega)) j).trans (hT j)
                  obtain ⟨q1, q2, q3, q5, q6⟩ := id h3
                  have q4 := h2.1
                  have hzm : zr (m : Int) := by unfold zr; omega
                  refine zx_aloadN dX6_takeToken_93 rfl rfl ?_
                  refine zy_getI fl_RX6_25 rfl dX6_takeToken_94 rfl ?_
                  refine zx_aloadN dX6_takeToken_97 rfl rfl ?_
                  refine zy_getI fl_RX6_15 rfl dX6_takeToken_98 rfl ?_
                  refine zx_icmp_ge (tgt := 136) (by first | exact hz _ _ | assumption | exact zr_b _ | exact zcmp_r _ _ | exact hbr _ | (unfold zr at *; omega)) (by first | exact hz _ _ | assumption | exact zr_b _ | exact zcmp_r _ _ | exact hbr _ | (unfold zr at *; omega)) dX6_takeToken_101 (by decide) (fun h101 => ?_) (fun h101 => ?_)
                  · refine zx_vret rfl dX6_takeToken_136 ?_
                    rw [hQ]
                    refine ⟨rfl, ?_⟩
                    first
                    | exact ⟨hz, ⟨fun q hq j => by have hq2 := hq; dsimp only at hq2; simp only [zput_e]; (repeat' split) <;> first | rfl | omega, rfl⟩, PC_mk (fun j => hT j) hn he.2 hS ((zput_s _ _ _ _).trans hK0.symm) ((zput_i _ _ _ _ _ (by decide)).trans ((zput_i _ _ _ _ _ (by decide)).trans (zput_s _ _ _ _))) ((zput_i _ _ _ _ _ (by decide)).trans ((zput_s _ _ _ _).trans (by rw [hE0]))) h5.1 h5.2⟩
                    | (have hE1 : xE t n e = m := by
                         unfold xE
                         rcases h4 with ⟨a, b⟩ | ⟨a, b⟩
                         · rw [hKk, a, if_neg (by decide), if_pos rfl, hS, b]
                           refine rnE_n ?_
                           rintro ⟨c, d⟩
                           have := kb_1.mpr d
                           omega
                         · rw [hKk, a, if_neg (by decide), if_neg (by decide), if_pos rfl, hS, b]
                           refine rnE_n ?_
                           rintro ⟨c, d⟩
                           have := kb_2.mpr d
                           omega
                       exact ⟨hz, h1, PC_mk hTτ ⟨q1, hn.2⟩ he.2 hS (q2.trans hKk.symm) q3 (by rw [hE1]; exact q4) q5 q6⟩)
                    | (have hE1 : xE t n e = i + 1 := by
                         unfold xE
                         rw [hKk, if_neg (by omega), if_neg (by omega), if_neg (by omega), hS]
                       refine ⟨hz, ⟨fun q hq j => by have hq2 := hq; dsimp only at hq2; simp only [zput_e]; (repeat' split) <;> first | rfl | omega, rfl⟩, PC_mk (fun j => hT j) hn he.2 hS ?_ ?_ ?_ ?_ ?_⟩ <;> simp only [zput_e] <;> simp
                       · exact hKk.symm
                       · rw [hE1]; omega
                       · exact h5.1
                       · exact h5.2)
                  · refine zx_aloadN dX6_takeToken_104 rfl rfl ?_
                    refine zy_getR (q' := 2) fl_RX6_9 rfl dX6_takeToken_105 rfl ?_
                    refine zx_aloadN dX6_takeToken_108 rfl rfl ?_
                    refine zy_getI fl_RX6_25 rfl dX6_takeToken_109 rfl ?_
                    refine zy_top (b := ((m : Nat) : Int)) (q4) ?_
                    refine zy_bald (v := τ.1 2 m) rfl (by decide) (by decide) dX6_takeToken_112 (by omega) (by omega) rfl ?_
                    refine zy_cs [zi (τ.1 2 m)] (sX6_kindOfByte  hfl hz (by first | exact hz _ _ | assumption | exact zr_b _ | exact zcmp_r _ _ | exact hbr _ | (unfold zr at *; omega))) dX6_takeToken_113 cw_RX6_54 okX6_kindOfByte rfl (Nat.le_of_ble_eq_true rfl) ⟨Nat.le_of_ble_eq_true rfl, Nat.le_of_ble_eq_true rfl, Nat.le_of_ble_eq_true rfl, Nat.le_of_ble_eq_true rfl⟩ ?_
                    refine zy_top (b := kb (t m)) (by rw [hTτ m]) ?_
                    refine zx_aloadN dX6_takeToken_116 rfl rfl ?_
                    refine zy_getI fl_RX6_19 rfl dX6_takeToken_117 rfl ?_
                    refine zy_top (b := kb (t i)) (q2) ?_
                    refine zx_icmp_ne (tgt := 136) (by first | exact hz _ _ | assumption | exact zr_b _ | exact zcmp_r _ _ | exact hbr _ | (unfold zr at *; omega)) (by first | exact hz _ _ | assumption | exact zr_b _ | exact zcmp_r _ _ | exact hbr _ | (unfold zr at *; omega)) dX6_takeToken_120 (by decide) (fun h120 => ?_) (fun h120 => ?_)
                    · refine zx_vret rfl dX6_takeToken_136 ?_
                      rw [hQ]
                      refine ⟨rfl, ?_⟩
                      first
                      | exact ⟨hz, ⟨fun q hq j => by have hq2 := hq; dsimp only at hq2; simp only [zput_e]; (repeat' split) <;> first | rfl | omega, rfl⟩, PC_mk (fun j => hT j) hn he.2 hS ((zput_s _ _ _ _).trans hK0.symm) ((zput_i _ _ _ _ _ (by decide)).trans ((zput_i _ _ _ _ _ (by decide)).trans (zput_s _ _ _ _))) ((zput_i _ _ _ _ _ (by decide)).trans ((zput_s _ _ _ _).trans (by rw [hE0]))) h5.1 h5.2⟩
                      | (have hE1 : xE t n e = m := by
                           unfold xE
                           rcases h4 with ⟨a, b⟩ | ⟨a, b⟩
                           · rw [hKk, a, if_neg (by decide), if_pos rfl, hS, b]
                             refine rnE_n ?_
                             rintro ⟨c, d⟩
                             have := kb_1.mpr d
                             omega
                           · rw [hKk, a, if_neg (by decide), if_neg (by decide), if_pos rfl, hS, b]
                             refine rnE_n ?_
                             rintro ⟨c, d⟩
                             have := kb_2.mpr d
                             omega
                         exact ⟨hz, h1, PC_mk hTτ ⟨q1, hn.2⟩ he.2 hS (q2.trans hKk.symm) q3 (by rw [hE1]; exact q4) q5 q6⟩)
                      | (have hE1 : xE t n e = i + 1 := by
                           unfold xE
                           rw [hKk, if_neg (by omega), if_neg (by omega), if_neg (by omega), hS]
                         refine ⟨hz, ⟨fun q hq j => by have hq2 := hq; dsimp only at hq2; simp only [zput_e]; (repeat' split) <;> first | rfl | omega, rfl⟩, PC_mk (fun j => hT j) hn he.2 hS ?_ ?_ ?_ ?_ ?_⟩ <;> simp only [zput_e] <;> simp
                         · exact hKk.symm
                         · rw [hE1]; omega
                         · exact h5.1
                         · exact h5.2)
                    · refine zx_aloadN dX6_takeToken_123 rfl rfl ?_
                      refine zx_dup rfl dX6_takeToken_124 ?_
                      refine zy_getI fl_RX6_25 rfl dX6_takeToken_125 rfl ?_
                      refine zx_iconst dX6_takeToken_128 ?_
                      refine zx_iadd dX6_takeToken_129 ?_
                      refine zx_putI fl_RX6_25 rfl (Or.inl fp_6_4) dX6_takeToken_130 ?_
                      refine zx_goto (tgt := 93) dX6_takeToken_133 (by decide) ?_
                      exact ih93 (zput τ 1 4 ((τ.1 1 4) + 1)) (m + 1) (zOK_put hz (by first | exact hz _ _ | assumption | exact zr_b _ | exact zcmp_r _ _ | exact hbr _ | (unfold zr at *; omega))) (⟨fun q hq j => by have hq2 := hq; dsimp only at hq2; exact (zput_k _ _ _ _ _ (by omega)).trans (h1.1 q hq j), h1.2⟩) (⟨(zput_s _ _ _ _).trans (by omega), by omega, by omega⟩) (⟨(zput_i _ _ _ _ _ (by decide)).trans h3.1, (zput_i _ _ _ _ _ (by decide)).trans h3.2.1, (zput_i _ _ _ _ _ (by decide)).trans h3.2.2.1, (zput_i _ _ _ _ _ (by decide)).trans h3.2.2.2.1, (zput_i _ _ _ _ _ (by decide)).trans h3.2.2.2.2⟩) (by
                              have hk : kb (t m) = kb (t i) := by omega
                              rcases h4 with ⟨a, b⟩ | ⟨a, b⟩
                              · exact Or.inl ⟨a, b.trans (rnE_y (by omega) (kb_1.mp (hk.trans a)))⟩
                              · exact Or.inr ⟨a, b.trans (rnE_y (by omega) (kb_2.mp (hk.trans a)))⟩) (by omega)
              exact L93 _ (zput (zput (zput (zput σ 1 3 ((i : Nat) : Int)) 1 4 ((i : Nat) : Int)) 1 2 (kb (t i))) 1 4 (((i : Nat) : Int) + 1)) (i + 1) (zOK_put (zOK_put (zOK_put (zOK_put hz (by first | exact hz _ _ | assumption | exact zr_b _ | exact zcmp_r _ _ | exact hbr _ | (unfold zr at *; omega))) (by first | exact hz _ _ | assumption | exact zr_b _ | exact zcmp_r _ _ | exact hbr _ | (unfold zr at *; omega))) (by first | exact hz _ _ | assumption | exact zr_b _ | exact zcmp_r _ _ | exact hbr _ | (unfold zr at *; omega))) (by first | exact hz _ _ | assumption | exact zr_b _ | exact zcmp_r _ _ | exact hbr _ | (unfold zr at *; omega))) (⟨fun q hq j => by have hq2 := hq; dsimp only at hq2; simp only [zput_e]; (repeat' split) <;> first | rfl | omega, rfl⟩) (⟨(zput_s _ _ _ _).trans (by omega), by omega, by omega⟩) (by simp only [zput_e]; refine ⟨?_, ?_, ?_, ?_, ?_⟩ <;> simp <;> first | exact hn.1 | exact h5.1 | exact h5.2) (by first | exact Or.inl ⟨by assumption, rnE_y hin (kb_1.mp (by assumption))⟩ | exact Or.inr ⟨by assumption, rnE_y hin (kb_2.mp (by assumption))⟩) (Nat.lt_succ_self _)
            · refine zx_aloadN dX6_takeToken_85 rfl rfl ?_
              refine zy_getI (v := kb (t i)) fl_RX6_19 rfl dX6_takeToken_86 ((zput_i _ _ _ _ _ (by omega)).trans (zput_s _ _ _ _)) ?_
              refine zx_iconst dX6_takeToken_89 ?_
              refine zx_icmp_ne (tgt := 136) (by first | exact hz _ _ | assumption | exact zr_b _ | exact zcmp_r _ _ | exact hbr _ | (unfold zr at *; omega)) (by first | exact hz _ _ | assumption | exact zr_b _ | exact zcmp_r _ _ | exact hbr _ | (unfold zr at *; omega)) dX6_takeToken_90 (by decide) (fun h90 => ?_) (fun h90 => ?_)
              · refine zx_vret rfl dX6_takeToken_136 ?_
                rw [hQ]
                refine ⟨rfl, ?_⟩
                first
                | exact ⟨(zOK_put (zOK_put (zOK_put (zOK_put hz (by first | exact hz _ _ | assumption | exact zr_b _ | exact zcmp_r _ _ | exact hbr _ | (unfold zr at *; omega))) (by first | exact hz _ _ | assumption | exact zr_b _ | exact zcmp_r _ _ | exact hbr _ | (unfold zr at *; omega))) (by first | exact hz _ _ | assumption | exact zr_b _ | exact zcmp_r _ _ | exact hbr _ | (unfold zr at *; omega))) (by first | exact hz _ _ | assumption | exact zr_b _ | exact zcmp_r _ _ | exact hbr _ | (unfold zr at *; omega))), ⟨fun q hq j => by have hq2 := hq; dsimp only at hq2; simp only [zput_e]; (repeat' split) <;> first | rfl | omega, rfl⟩, PC_mk (fun j => hT j) hn he.2 hS ((zput_s _ _ _ _).trans hK0.symm) ((zput_i _ _ _ _ _ (by decide)).trans ((zput_i _ _ _ _ _ (by decide)).trans (zput_s _ _ _ _))) ((zput_i _ _ _ _ _ (by decide)).trans ((zput_s _ _ _ _).trans (by rw [hE0]))) h5.1 h5.2⟩
                | (have hE1 : xE t n e = m := by
                     unfold xE
                     rcases h4 with ⟨a, b⟩ | ⟨a, b⟩
                     · rw [hKk, a, if_neg (by decide), if_pos rfl, hS, b]
                       refine rnE_n ?_
                       rintro ⟨c, d⟩
                       have := kb_1.mpr d
                       omega
                     · rw [hKk, a, if_neg (by decide), if_neg (by decide), if_pos rfl, hS, b]
                       refine rnE_n ?_
                       rintro ⟨c, d⟩
                       have := kb_2.mpr d
                       omega
                   exact ⟨(zOK_put (zOK_put (zOK_put (zOK_put hz (by first | exact hz _ _ | assumption | exact zr_b _ | exact zcmp_r _ _ | exact hbr _ | (unfold zr at *; omega))) (by first | exact hz _ _ | assumption | exact zr_b _ | exact zcmp_r _ _ | exact hbr _ | (unfold zr at *; omega))) (by first | exact hz _ _ | assumption | exact zr_b _ | exact zcmp_r _ _ | exact hbr _ | (unfold zr at *; omega))) (by first | exact hz _ _ | assumption | exact zr_b _ | exact zcmp_r _ _ | exact hbr _ | (unfold zr at *; omega))), h1, PC_mk hTτ ⟨q1, hn.2⟩ he.2 hS (q2.trans hKk.symm) q3 (by rw [hE1]; exact q4) q5 q6⟩)
                | (have hE1 : xE t n e = i + 1 := by
                     unfold xE
                     rw [hKk, if_neg (by omega), if_neg (by omega), if_neg (by omega), hS]
                   refine ⟨(zOK_put (zOK_put (zOK_put (zOK_put hz (by first | exact hz _ _ | assumption | exact zr_b _ | exact zcmp_r _ _ | exact hbr _ | (unfold zr at *; omega))) (by first | exact hz _ _ | assumption | exact zr_b _ | exact zcmp_r _ _ | exact hbr _ | (unfold zr at *; omega))) (by first | exact hz _ _ | assumption | exact zr_b _ | exact zcmp_r _ _ | exact hbr _ | (unfold zr at *; omega))) (by first | exact hz _ _ | assumption | exact zr_b _ | exact zcmp_r _ _ | exact hbr _ | (unfold zr at *; omega))), ⟨fun q hq j => by have hq2 := hq; dsimp only at hq2; simp only [zput_e]; (repeat' split) <;> first | rfl | omega, rfl⟩, PC_mk (fun j => hT j) hn he.2 hS ?_ ?_ ?_ ?_ ?_⟩ <;> simp only [zput_e] <;> simp
                   · exact hKk.symm
                   · rw [hE1]; omega
                   · exact h5.1
                   · exact h5.2)
              · have L93 : ∀ (N : Nat) (τ : zS) (m : Nat), (zOK τ) → (zSame (fun q => q = 1) σ τ) → (τ.1 1 4 = (m : Int) ∧ i + 1 ≤ m ∧ m ≤ n) → (τ.1 1 1 = (n : Int) ∧ τ.1 1 2 = kb (t i) ∧ τ.1 1 3 = (i : Int) ∧ τ.1 1 5 = 0 ∧ τ.1 1 6 = -1) → ((kb (t i) = 1 ∧ rnE (isWd t) n i = rnE (isWd t) n m) ∨ (kb (t i) = 2 ∧ rnE (isDg t) n i = rnE (isDg t) n m)) → (n + 1 - m) < N → zX l w mX6_takeToken (zMQ w 1 0 Q) 93 [zf 6 1, zi ((i : Nat) : Int)] [] 0 τ := by
                  intro N
                  induction N with
                  | zero => intro τ m _ _ _ _ _ _; exact absurd (by assumption) (Nat.not_lt_zero _)
                  | succ N ih93 =>
                    intro τ m hz h1 h2 h3 h4 hN
                    have hTτ : ∀ j : Nat, τ.1 2 j = t j := fun j => (h1.1 2 (by first | omega | (dsimp only; omega)) j).trans (hT j)
                    obtain ⟨q1, q2, q3, q5, q6⟩ := id h3
                    have q4 := h2.1
                    have hzm : zr (m : Int) := by unfold zr; omega
                    refine zx_aloadN dX6_takeToken_93 rfl rfl ?_
                    refine zy_getI fl_RX6_25 rfl dX6_takeToken_94 rfl ?_
                    refine zx_aloadN dX6_takeToken_97 rfl rfl ?_
                    refine zy_getI fl_RX6_15 rfl dX6_takeToken_98 rfl ?_
                    refine zx_icmp_ge (tgt := 136) (by first | exact hz _ _ | assumption | exact zr_b _ | exact zcmp_r _ _ | exact hbr _ | (unfold zr at *; omega)) (by first | exact hz _ _ | assumption | exact zr_b _ | exact zcmp_r _ _ | exact hbr _ | (unfold zr at *; omega)) dX6_takeToken_101 (by decide) (fun h101 => ?_) (fun h101 => ?_)
                    · refine zx_vret rfl dX6_takeToken_136 ?_
                      rw [hQ]
                      refine ⟨rfl, ?_⟩
                      first
                      | exact ⟨hz, ⟨fun q hq j => by have hq2 := hq; dsimp only at hq2; simp only [zput_e]; (repeat' split) <;> first | rfl | omega, rfl⟩, PC_mk (fun j => hT j) hn he.2 hS ((zput_s _ _ _ _).trans hK0.symm) ((zput_i _ _ _ _ _ (by decide)).trans ((zput_i _ _ _ _ _ (by decide)).trans (zput_s _ _ _ _))) ((zput_i _ _ _ _ _ (by decide)).trans ((zput_s _ _ _ _).trans (by rw [hE0]))) h5.1 h5.2⟩
                      | (have hE1 : xE t n e = m := by
                           unfold xE
                           rcases h4 with ⟨a, b⟩ | ⟨a, b⟩
                           · rw [hKk, a, if_neg (by decide), if_pos rfl, hS, b]
                             refine rnE_n ?_
                             rintro ⟨c, d⟩
                             have := kb_1.mpr d
                             omega
                           · rw [hKk, a, if_neg (by decide), if_neg (by decide), if_pos rfl, hS, b]
                             refine rnE_n ?_
                             rintro ⟨c, d⟩
                             have := kb_2.mpr d
                             omega
                         exact ⟨hz, h1, PC_mk hTτ ⟨q1, hn.2⟩ he.2 hS (q2.trans hKk.symm) q3 (by rw [hE1]; exact q4) q5 q6⟩)
                      | (have hE1 : xE t n e = i + 1 := by
                           unfold xE
                           rw [hKk, if_neg (by omega), if_neg (by omega), if_neg (by omega), hS]
                         refine ⟨hz, ⟨fun q hq j => by have hq2 := hq; dsimp only at hq2; simp only [zput_e]; (repeat' split) <;> first | rfl | omega, rfl⟩, PC_mk (fun j => hT j) hn he.2 hS ?_ ?_ ?_ ?_ ?_⟩ <;> simp only [zput_e] <;> simp
                         · exact hKk.symm
                         · rw [hE1]; omega
                         · exact h5.1
                         · exact h5.2)
                    · refine zx_aloadN dX6_takeToken_104 rfl rfl ?_
                      refine zy_getR (q' := 2) fl_RX6_9 rfl dX6_takeToken_105 rfl ?_
                      refine zx_aloadN dX6_takeToken_108 rfl rfl ?_
                      refine zy_getI fl_RX6_25 rfl dX6_takeToken_109 rfl ?_
                      refine zy_top (b := ((m : Nat) : Int)) (q4) ?_
                      refine zy_bald (v := τ.1 2 m) rfl (by decide) (by decide) dX6_takeToken_112 (by omega) (by omega) rfl ?_
                      refine zy_cs [zi (τ.1 2 m)] (sX6_kindOfByte  hfl hz (by first | exact hz _ _ | assumption | exact zr_b _ | exact zcmp_r _ _ | exact hbr _ | (unfold zr at *; omega))) dX6_takeToken_113 cw_RX6_54 okX6_kindOfByte rfl (Nat.le_of_ble_eq_true rfl) ⟨Nat.le_of_ble_eq_true rfl, Nat.le_of_ble_eq_true rfl, Nat.le_of_ble_eq_true rfl, Nat.le_of_ble_eq_true rfl⟩ ?_
                      refine zy_top (b := kb (t m)) (by rw [hTτ m]) ?_
                      refine zx_aloadN dX6_takeToken_116 rfl rfl ?_
                      refine zy_getI fl_RX6_19 rfl dX6_takeToken_117 rfl ?_
                      refine zy_top (b := kb (t i)) (q2) ?_
                      refine zx_icmp_ne (tgt := 136) (by first | exact hz _ _ | assumption | exact zr_b _ | exact zcmp_r _ _ | exact hbr _ | (unfold zr at *; omega)) (by first | exact hz _ _ | assumption | exact zr_b _ | exact zcmp_r _ _ | exact hbr _ | (unfold zr at *; omega)) dX6_takeToken_120 (by decide) (fun h120 => ?_) (fun h120 => ?_)
                      · refine zx_vret rfl dX6_takeToken_136 ?_
                        rw [hQ]
                        refine ⟨rfl, ?_⟩
                        first
                        | exact ⟨hz, ⟨fun q hq j => by have hq2 := hq; dsimp only at hq2; simp only [zput_e]; (repeat' split) <;> first | rfl | omega, rfl⟩, PC_mk (fun j => hT j) hn he.2 hS ((zput_s _ _ _ _).trans hK0.symm) ((zput_i _ _ _ _ _ (by decide)).trans ((zput_i _ _ _ _ _ (by decide)).trans (zput_s _ _ _ _))) ((zput_i _ _ _ _ _ (by decide)).trans ((zput_s _ _ _ _).trans (by rw [hE0]))) h5.1 h5.2⟩
                        | (have hE1 : xE t n e = m := by
                             unfold xE
                             rcases h4 with ⟨a, b⟩ | ⟨a, b⟩
                             · rw [hKk, a, if_neg (by decide), if_pos rfl, hS, b]
                               refine rnE_n ?_
                               rintro ⟨c, d⟩
                               have := kb_1.mpr d
                               omega
                             · rw [hKk, a, if_neg (by decide), if_neg (by decide), if_pos rfl, hS, b]
                               refine rnE_n ?_
                               rintro ⟨c, d⟩
                               have := kb_2.mpr d
                               omega
                           exact ⟨hz, h1, PC_mk hTτ ⟨q1, hn.2⟩ he.2 hS (q2.trans hKk.symm) q3 (by rw [hE1]; exact q4) q5 q6⟩)
                        | (have hE1 : xE t n e = i + 1 := by
                             unfold xE
                             rw [hKk, if_neg (by omega), if_neg (by omega), if_neg (by omega), hS]
                           refine ⟨hz, ⟨fun q hq j => by have hq2 := hq; dsimp only at hq2; simp only [zput_e]; (repeat' split) <;> first | rfl | omega, rfl⟩, PC_mk (fun j => hT j) hn he.2 hS ?_ ?_ ?_ ?_ ?_⟩ <;> simp only [zput_e] <;> simp
                           · exact hKk.symm
                           · rw [hE1]; omega
                           · exact h5.1
                           · exact h5.2)
                      · refine zx_aloadN dX6_takeToken_123 rfl rfl ?_
                        refine zx_dup rfl dX6_takeToken_124 ?_
                        refine zy_getI fl_RX6_25 rfl dX6_takeToken_125 rfl ?_
                        refine zx_iconst dX6_takeToken_128 ?_
                        refine zx_iadd dX6_takeToken_129 ?_
                        refine zx_putI fl_RX6_25 rfl (Or.inl fp_6_4) dX6_takeToken_130 ?_
                        refine zx_goto (tgt := 93) dX6_takeToken_133 (by decide) ?_
                        exact ih93 (zput τ 1 4 ((τ.1 1 4) + 1)) (m + 1) (zOK_put hz (by first | exact hz _ _ | assumption | exact zr_b _ | exact zcmp_r _ _ | exact hbr _ | (unfold zr at *; omega))) (⟨fun q hq j => by have hq2 := hq; dsimp only at hq2; exact (zput_k _ _ _ _ _ (by omega)).trans (h1.1 q hq j), h1.2⟩) (⟨(zput_s _ _ _ _).trans (by omega), by omega, by omega⟩) (⟨(zput_i _ _ _ _ _ (by decide)).trans h3.1, (zput_i _ _ _ _ _ (by decide)).trans h3.2.1, (zput_i _ _ _ _ _ (by decide)).trans h3.2.2.1, (zput_i _ _ _ _ _ (by decide)).trans h3.2.2.2.1, (zput_i _ _ _ _ _ (by decide)).trans h3.2.2.2.2⟩) (by
                                have hk : kb (t m) = kb (t i) := by omega
                                rcases h4 with ⟨a, b⟩ | ⟨a, b⟩
                                · exact Or.inl ⟨a, b.trans (rnE_y (by omega) (kb_1.mp (hk.trans a)))⟩
                                · exact Or.inr ⟨a, b.trans (rnE_y (by omega) (kb_2.mp (hk.trans a)))⟩) (by omega)
                exact L93 _ (zput (zput (zput (zput σ 1 3 ((i : Nat) : Int)) 1 4 ((i : Nat) : Int)) 1 2 (kb (t i))) 1 4 (((i : Nat) : Int) + 1)) (i + 1) (zOK_put (zOK_put (zOK_put (zOK_put hz (by first | exact hz _ _ | assumption | exact zr_b _ | exact zcmp_r _ _ | exact hbr _ | (unfold zr at *; omega))) (by first | exact hz _ _ | assumption | exact zr_b _ | exact zcmp_r _ _ | exact hbr _ | (unfold zr at *; omega))) (by first | exact hz _ _ | assumption | exact zr_b _ | exact zcmp_r _ _ | exact hbr _ | (unfold zr at *; omega))) (by first | exact hz _ _ | assumption | exact zr_b _ | exact zcmp_r _ _ | exact hbr _ | (unfold zr at *; omega))) (⟨fun q hq j => by have hq2 := hq; dsimp only at hq2; simp only [zput_e]; (repeat' split) <;> first | rfl | omega, rfl⟩) (⟨(zput_s _ _ _ _).trans (by omega), by omega, by omega⟩) (by simp only [zput_e]; refine ⟨?_, ?_, ?_, ?_, ?_⟩ <;> simp <;> first | exact hn.1 | exact h5.1 | exact h5.2) (by first | exact Or.inl ⟨by assumption, rnE_y hin (kb_1.mp (by assumption))⟩ | exact Or.inr ⟨by assumption, rnE_y hin (kb_2.mp (by assumption))⟩) (Nat.lt_succ_self _)
          · have hK0 : xK t n e = 0 := by unfold xK; rw [hS, if_pos (by omega)]
            have hE0 : xE t n e = i := by unfold xE; rw [if_pos hK0]; exact hS
            refine zx_aloadN dX6_takeToken_48 rfl rfl ?_
            refine zx_iconst dX6_takeToken_49 ?_
            refine zx_putI fl_RX6_19 rfl (Or.inl fp_6_2) dX6_takeToken_50 ?_
            refine zx_vret rfl dX6_takeToken_53 ?_
            rw [hQ]
            refine ⟨rfl, ?_⟩
            first
            | exact ⟨(zOK_put (zOK_put (zOK_put hz (by first | exact hz _ _ | assumption | exact zr_b _ | exact zcmp_r _ _ | exact hbr _ | (unfold zr at *; omega))) (by first | exact hz _ _ | assumption | exact zr_b _ | exact zcmp_r _ _ | exact hbr _ | (unfold zr at *; omega))) (by unfold zr; omega)), ⟨fun q hq j => by have hq2 := hq; dsimp only at hq2; simp only [zput_e]; (repeat' split) <;> first | rfl | omega, rfl⟩, PC_mk (fun j => hT j) hn he.2 hS ((zput_s _ _ _ _).trans hK0.symm) ((zput_i _ _ _ _ _ (by decide)).trans ((zput_i _ _ _ _ _ (by decide)).trans (zput_s _ _ _ _))) ((zput_i _ _ _ _ _ (by decide)).trans ((zput_s _ _ _ _).trans (by rw [hE0]))) h5.1 h5.2⟩
            | (have hE1 : xE t n e = m := by
                 unfold xE
                 rcases h4 with ⟨a, b⟩ | ⟨a, b⟩
                 · rw [hKk, a, if_neg (by decide), if_pos rfl, hS, b]
                   refine rnE_n ?_
                   rintro ⟨c, d⟩
                   have := kb_1.mpr d
                   omega
                 · rw [hKk, a, if_neg (by decide), if_neg (by decide), if_pos rfl, hS, b]
                   refine rnE_n ?_
                   rintro ⟨c, d⟩
                   have := kb_2.mpr d
                   omega
               exact ⟨(zOK_put (zOK_put (zOK_put hz (by first | exact hz _ _ | assumption | exact zr_b _ | exact zcmp_r _ _ | exact hbr _ | (unfold zr at *; omega))) (by first | exact hz _ _ | assumption | exact zr_b _ | exact zcmp_r _ _ | exact hbr _ | (unfold zr at *; omega))) (by unfold zr; omega)), h1, PC_mk hTτ ⟨q1, hn.2⟩ he.2 hS (q2.trans hKk.symm) q3 (by rw [hE1]; exact q4) q5 q6⟩)
            | (have hE1 : xE t n e = i + 1 := by
                 unfold xE
                 rw [hKk, if_neg (by omega), if_neg (by omega), if_neg (by omega), hS]
               refine ⟨(zOK_put (zOK_put (zOK_put hz (by first | exact hz _ _ | assumption | exact zr_b _ | exact zcmp_r _ _ | exact hbr _ | (unfold zr at *; omega))) (by first | exact hz _ _ | assumption | exact zr_b _ | exact zcmp_r _ _ | exact hbr _ | (unfold zr at *; omega))) (by unfold zr; omega)), ⟨fun q hq j => by have hq2 := hq; dsimp only at hq2; simp only [zput_e]; (repeat' split) <;> first | rfl | omega, rfl⟩, PC_mk (fun j => hT j) hn he.2 hS ?_ ?_ ?_ ?_ ?_⟩ <;> simp only [zput_e] <;> simp
               · exact hKk.symm
               · rw [hE1]; omega
               · exact h5.1
               · exact h5.2)
        · refine zy_iinc (b := ((i + 1 : Nat) : Int)) [zf 6 1, zi ((i + 1 : Nat) : Int)] dX6_takeToken_24 rfl (by omega) (Nat.le_of_ble_eq_true rfl) rfl rfl ?_
          refine zx_goto (tgt := 5) dX6_takeToken_27 (by decide) ?_
          exact ih5 (i + 1) (by omega) (by rw [hr]; exact rnE_y (by omega) ((hT i).symm.trans h21)) (by omega)
  exact L5 _ e (by omega) rfl (Nat.lt_succ_self _)
theorem sX6_takeToken {l : Launch} {w : zW} (hfl : l.stackTraces = false) {σ : zS} {t : Nat → Int} {n : Nat} {S : zP} (hz : zOK σ) (hP : PC t n S σ) (h0 : S.2.1 = 0) : Sp l w mX6_takeToken 1 0 [zf 6 1] σ (zqv none (fun τ => zOK τ ∧ zSame (fun q => q = 1) σ τ ∧ PC t n (pN t n S) τ)) := by
  obtain ⟨pT, pn, pp, ⟨p5, p6⟩, ps, pu⟩ := hP
  obtain ⟨e1, e2, e3, e4⟩ := ps h0
  have h := sX6_takeToken_e (l := l) (w := w) hfl (t := t) (n := n) (e := xE t n S.1) hz pT pn ⟨e4, (xE_le pp).2⟩ ⟨p5.trans h0, p6.trans e1⟩
  rw [pN_0 h0 e1] at h
  exact h
set_option maxRecDepth 20000 in
set_option maxHeartbeats 2000000 in
theorem sX6_startParsing {l : Launch} {w : zW} (hfl : l.stackTraces = false) {σ : zS} {t : Nat → Int} {n : Nat}  (hz : zOK σ) (hT : ∀ i : Nat, σ.1 2 i = t i) (hn : σ.1 1 1 = (n : Int) ∧ n ≤ 1400) : Sp l w mX6_startParsing 2 0 [zf 6 1] σ (zqv (none) (fun τ => zOK τ ∧ zSame (fun q => q = 1) σ τ ∧ PC t n (0, 0, -1) τ)) := by
  obtain ⟨Q, hQ⟩ : ∃ Q : zQ, Q = (zqv (none) (fun τ => zOK τ ∧ zSame (fun q => q = 1) σ τ ∧ PC t n (0, 0, -1) τ)) := ⟨_, rfl⟩
  rw [← hQ]
  refine zx_enter hfl (by decide) rfl 0 rfl ?_
  show zX l w mX6_startParsing (zMQ w 2 0 Q) 0 [zf 6 1] [] 0 σ
  refine zx_aloadN dX6_startParsing_0 rfl rfl ?_
  refine zx_iconst dX6_startParsing_1 ?_
  refine zx_putI fl_RX6_25 rfl (Or.inl fp_6_4) dX6_startParsing_2 ?_
  refine zx_aloadN dX6_startParsing_5 rfl rfl ?_
  refine zx_iconst dX6_startParsing_6 ?_
  refine zx_putI fl_RX6_28 rfl (Or.inl fp_6_5) dX6_startParsing_7 ?_
  refine zx_aloadN dX6_startParsing_10 rfl rfl ?_
  refine zx_iconst dX6_startParsing_11 ?_
  refine zx_putI fl_RX6_31 rfl (Or.inl fp_6_6) dX6_startParsing_12 ?_
  refine zx_aloadN dX6_startParsing_15 rfl rfl ?_
  refine zy_cvvR [] (sX6_takeToken_e  hfl (zOK_put (zOK_put (zOK_put hz (by unfold zr; omega)) (by unfold zr; omega)) (by unfold zr; omega)) (fun i => hT i) (⟨hn.1, hn.2⟩) (⟨(zput_i _ _ _ _ _ (by decide)).trans ((zput_i _ _ _ _ _ (by decide)).trans (zput_s _ _ _ _)), Nat.zero_le _⟩) (⟨(zput_i _ _ _ _ _ (by decide)).trans (zput_s _ _ _ _), zput_s _ _ _ _⟩)) dX6_startParsing_16 (by decide) rfl cw_RX6_47 okX6_takeToken rfl (Nat.le_of_ble_eq_true rfl) ⟨Nat.le_of_ble_eq_true rfl, Nat.le_of_ble_eq_true rfl, Nat.le_of_ble_eq_true rfl, Nat.le_of_ble_eq_true rfl⟩ (fun τ16 hr16 => ?_)
  have hz16 : zOK τ16 := hr16.1
  refine zx_vret rfl dX6_startParsing_19 ?_
  rw [hQ]
  refine ⟨rfl, ?_⟩
  exact ⟨hz16, ⟨fun q hq j => (hr16.2.1.1 q hq j).trans (by have hq2 := hq; dsimp only at hq2; simp only [zput_e]; (repeat' split) <;> first | rfl | omega), hr16.2.1.2⟩, hr16.2.2⟩
set_option maxRecDepth 20000 in
set_option maxHeartbeats 2000000 in
theorem sX6_isAt {l : Launch} {w : zW} (hfl : l.stackTraces = false) {σ : zS} {t : Nat → Int} {n : Nat} {S : zP} {j : Nat} (hz : zOK σ) (hP : PC t n S σ) : Sp l w mX6_isAt 4 0 [zf 6 1, zf 100 j] σ (zret (zi (zb (S.2.1 = 0 ∧ isW t n S.1 j))) σ) := by
  obtain ⟨Q, hQ⟩ : ∃ Q : zQ, Q = (zret (zi (zb (S.2.1 = 0 ∧ isW t n S.1 j))) σ) := ⟨_, rfl⟩
  rw [← hQ]
  refine zx_enter hfl (by decide) rfl 1 rfl ?_
  show zX l w mX6_isAt (zMQ w 4 0 Q) 0 [zf 6 1, zf 100 j, zu] [] 0 σ
  obtain ⟨pT, pn, pp, ⟨p5, p6⟩, ps, pu⟩ := id hP
  have hkr := xK_r t n S.1
  have hse := xE_le (t := t) pp
  have hzl := zsl_lt j
  refine zx_aloadN dX6_isAt_0 rfl rfl ?_
  refine zy_getI fl_RX6_19 rfl dX6_isAt_1 rfl ?_
  refine zx_iconst dX6_isAt_4 ?_
  refine zx_icmp_ne (tgt := 24) (by first | exact hz _ _ | assumption | exact zr_b _ | exact zcmp_r _ _ | exact zsl_r _ | (have := zch_lt j i; unfold zr; omega) | (unfold zr at *; omega)) (by first | exact hz _ _ | assumption | exact zr_b _ | exact zcmp_r _ _ | exact zsl_r _ | (have := zch_lt j i; unfold zr; omega) | (unfold zr at *; omega)) dX6_isAt_5 (by decide) (fun h5 => ?_) (fun h5 => ?_)
  · refine zx_iconst dX6_isAt_24 ?_
    refine zx_iret rfl rfl dX6_isAt_25 ?_
    rw [hQ]
    refine ⟨congrArg (fun z : Int => (Sum.inl (some (zi z)) : Option zV ⊕ String)) ?_, by first | rfl | (exfalso; omega)⟩
    first
    | exact (zb_t ⟨h0, by omega, by omega, fun k hk => hj k (by omega)⟩).symm
    | (refine (zb_f (fun q => ?_)).symm; have q1 := ps q.1; have q2 := q.2.1; have q3 := q.2.2.1; omega)
    | (refine (zb_f (fun q => ?_)).symm; have q4 := q.2.2.2 i (by omega); exact h52 ((pT _).trans q4))
  · have h0 := PC_s hP (by omega)
    obtain ⟨e1, e2, e3, e4⟩ := ps h0
    refine zx_aloadN dX6_isAt_8 rfl rfl ?_
    refine zy_getI fl_RX6_25 rfl dX6_isAt_9 rfl ?_
    refine zx_aloadN dX6_isAt_12 rfl rfl ?_
    refine zy_getI fl_RX6_22 rfl dX6_isAt_13 rfl ?_
    refine zx_isub dX6_isAt_16 ?_
    refine zx_aloadN dX6_isAt_17 rfl rfl ?_
    refine zy_str [] (sJ0_length_8abf5  hfl hz ) dX6_isAt_18 rfl cw_RX6_38 okJ0_length_8abf5 rfl (Nat.le_of_ble_eq_true rfl) ⟨Nat.le_of_ble_eq_true rfl, Nat.le_of_ble_eq_true rfl, Nat.le_of_ble_eq_true rfl, Nat.le_of_ble_eq_true rfl⟩ ?_
    refine zx_icmp_eq (tgt := 26) (by first | exact hz _ _ | assumption | exact zr_b _ | exact zcmp_r _ _ | exact zsl_r _ | (have := zch_lt j i; unfold zr; omega) | (unfold zr at *; omega)) (by first | exact hz _ _ | assumption | exact zr_b _ | exact zcmp_r _ _ | exact zsl_r _ | (have := zch_lt j i; unfold zr; omega) | (unfold zr at *; omega)) dX6_isAt_21 (by decide) (fun h21 => ?_) (fun h21 => ?_)
    · refine zx_iconst dX6_isAt_26 ?_
      refine zy_istoreN [zf 6 1, zf 100 j, zi 0] dX6_isAt_27 rfl (Nat.le_of_ble_eq_true rfl) (Nat.le_of_ble_eq_true rfl) rfl rfl ?_
      have L28 : ∀ (N : Nat) (i : Nat), (i ≤ zslen.getD j 0) → (∀ k, k < i → t (xS t n S.1 + k) = ((zsbyt.getD j []).getD k 0).toInt) → (zslen.getD j 0 + 1 - i) < N → zX l w mX6_isAt (zMQ w 4 0 Q) 28 [zf 6 1, zf 100 j, zi ((i : Nat) : Int)] [] 0 σ := by
        intro N
        induction N with
        | zero => intro i _ _ _; exact absurd (by assumption) (Nat.not_lt_zero _)
        | succ N ih28 =>
          intro i hi hj hN
          refine zx_iloadN dX6_isAt_28 rfl rfl ?_
          refine zx_aloadN dX6_isAt_29 rfl rfl ?_
          refine zy_str [] (sJ0_length_8abf5  hfl hz ) dX6_isAt_30 rfl cw_RX6_38 okJ0_length_8abf5 rfl (Nat.le_of_ble_eq_true rfl) ⟨Nat.le_of_ble_eq_true rfl, Nat.le_of_ble_eq_true rfl, Nat.le_of_ble_eq_true rfl, Nat.le_of_ble_eq_true rfl⟩ ?_
          refine zx_icmp_ge (tgt := 63) (by first | exact hz _ _ | assumption | exact zr_b _ | exact zcmp_r _ _ | exact zsl_r _ | (have := zch_lt j i; unfold zr; omega) | (unfold zr at *; omega)) (by first | exact hz _ _ | assumption | exact zr_b _ | exact zcmp_r _ _ | exact zsl_r _ | (have := zch_lt j i; unfold zr; omega) | (unfold zr at *; omega)) dX6_isAt_33 (by decide) (fun h33 => ?_) (fun h33 => ?_)
          · refine zx_iconst dX6_isAt_63 ?_
            refine zx_iret rfl rfl dX6_isAt_64 ?_
            rw [hQ]
            refine ⟨congrArg (fun z : Int => (Sum.inl (some (zi z)) : Option zV ⊕ String)) ?_, by first | rfl | (exfalso; omega)⟩
            first
            | exact (zb_t ⟨h0, by omega, by omega, fun k hk => hj k (by omega)⟩).symm
            | (refine (zb_f (fun q => ?_)).symm; have q1 := ps q.1; have q2 := q.2.1; have q3 := q.2.2.1; omega)
            | (refine (zb_f (fun q => ?_)).symm; have q4 := q.2.2.2 i (by omega); exact h52 ((pT _).trans q4))
          · refine zx_aloadN dX6_isAt_36 rfl rfl ?_
            refine zy_getR (q' := 2) fl_RX6_9 rfl dX6_isAt_37 rfl ?_
            refine zx_aloadN dX6_isAt_40 rfl rfl ?_
            refine zy_getI fl_RX6_22 rfl dX6_isAt_41 rfl ?_
            refine zx_iloadN dX6_isAt_44 rfl rfl ?_
            refine zx_iadd dX6_isAt_45 ?_
            refine zy_top (b := ((xS t n S.1 + i : Nat) : Int)) (by omega) ?_
            refine zy_bald (v := σ.1 2 (xS t n S.1 + i)) rfl (by decide) (by decide) dX6_isAt_46 (by omega) (by omega) rfl ?_
            refine zx_aloadN dX6_isAt_47 rfl rfl ?_
            refine zx_iloadN dX6_isAt_48 rfl rfl ?_
            refine zy_str [zi ((i : Nat) : Int)] (sJ0_charAt_5068e  hfl hz (by first | assumption | omega)) dX6_isAt_49 rfl cw_RX6_43 okJ0_charAt_5068e rfl (Nat.le_of_ble_eq_true rfl) ⟨Nat.le_of_ble_eq_true rfl, Nat.le_of_ble_eq_true rfl, Nat.le_of_ble_eq_true rfl, Nat.le_of_ble_eq_true rfl⟩ ?_
            refine zy_top (b := ((zsbyt.getD j []).getD i 0).toInt) rfl ?_
            refine zx_icmp_eq (tgt := 57) (by first | exact hz _ _ | assumption | exact zr_b _ | exact zcmp_r _ _ | exact zsl_r _ | (have := zch_lt j i; unfold zr; omega) | (unfold zr at *; omega)) (by first | exact hz _ _ | assumption | exact zr_b _ | exact zcmp_r _ _ | exact zsl_r _ | (have := zch_lt j i; unfold zr; omega) | (unfold zr at *; omega)) dX6_isAt_52 (by decide) (fun h52 => ?_) (fun h52 => ?_)
            · refine zy_iinc (b := ((i + 1 : Nat) : Int)) [zf 6 1, zf 100 j, zi ((i + 1 : Nat) : Int)] dX6_isAt_57 rfl (by omega) (Nat.le_of_ble_eq_true rfl) rfl rfl ?_
              refine zx_goto (tgt := 28) dX6_isAt_60 (by decide) ?_
              exact ih28 (i + 1) (by omega) (lt_s hj ((pT _).symm.trans h52)) (by omega)
            · refine zx_iconst dX6_isAt_55 ?_
              refine zx_iret rfl rfl dX6_isAt_56 ?_
              rw [hQ]
              refine ⟨congrArg (fun z : Int => (Sum.inl (some (zi z)) : Option zV ⊕ String)) ?_, by first | rfl | (exfalso; omega)⟩
              first
              | exact (zb_t ⟨h0, by omega, by omega, fun k hk => hj k (by omega)⟩).symm
              | (refine (zb_f (fun q => ?_)).symm; have q1 := ps q.1; have q2 := q.2.1; have q3 := q.2.2.1; omega)
              | (refine (zb_f (fun q => ?_)).symm; have q4 := q.2.2.2 i (by omega); exact h52 ((pT _).trans q4))
      exact L28 _ 0 (by omega) (fun k hk => absurd hk (Nat.not_lt_zero k)) (Nat.lt_succ_self _)
    · refine zx_iconst dX6_isAt_24 ?_
      refine zx_iret rfl rfl dX6_isAt_25 ?_
      rw [hQ]
      refine ⟨congrArg (fun z : Int => (Sum.inl (some (zi z)) : Option zV ⊕ String)) ?_, by first | rfl | (exfalso; omega)⟩
      first
      | exact (zb_t ⟨h0, by omega, by omega, fun k hk => hj k (by omega)⟩).symm
      | (refine (zb_f (fun q => ?_)).symm; have q1 := ps q.1; have q2 := q.2.1; have q3 := q.2.2.1; omega)
      | (refine (zb_f (fun q => ?_)).symm; have q4 := q.2.2.2 i (by omega); exact h52 ((pT _).trans q4))
set_option maxRecDepth 20000 in
set_option maxHeartbeats 2000000 in
theorem sX6_takeNumber {l : Launch} {w : zW} (hfl : l.stackTraces = false) {σ : zS} {t : Nat → Int} {n : Nat} {S : zP} {x y : Int} (hz : zOK σ) (hP : PC t n S σ) (hx : zr x) (hy : zr y) : Sp l w mX6_takeNumber 2 0 [zf 6 1, zi x, zi y] σ (zqv (some (zi (if (pNum t n S x y).2.1 = 0 then pV t n S.1 else 0))) (fun τ => zOK τ ∧ zSame (fun q => q = 1) σ τ ∧ PC t n (pNum t n S x y) τ)) := by
  obtain ⟨Q, hQ⟩ : ∃ Q : zQ, Q = (zqv (some (zi (if (pNum t n S x y).2.1 = 0 then pV t n S.1 else 0))) (fun τ => zOK τ ∧ zSame (fun q => q = 1) σ τ ∧ PC t n (pNum t n S x y) τ)) := ⟨_, rfl⟩
  rw [← hQ]
  refine zx_enter hfl (by decide) rfl 2 rfl ?_
  show zX l w mX6_takeNumber (zMQ w 2 0 Q) 0 [zf 6 1, zi x, zi y, zu, zu] [] 0 σ
  obtain ⟨pT, pn, pp, ⟨p5, p6⟩, ps, pu⟩ := id hP
  have hkr := xK_r t n S.1
  have hse := xE_le (t := t) pp
  refine zx_aloadN dX6_takeNumber_0 rfl rfl ?_
  refine zy_getI fl_RX6_19 rfl dX6_takeNumber_1 rfl ?_
  refine zx_iconst dX6_takeNumber_4 ?_
  refine zx_icmp_ne (tgt := 21) (by first | exact hz _ _ | assumption | exact zr_b _ | exact zcmp_r _ _ | (unfold zr at *; omega)) (by first | exact hz _ _ | assumption | exact zr_b _ | exact zcmp_r _ _ | (unfold zr at *; omega)) dX6_takeNumber_5 (by decide) (fun h5 => ?_) (fun h5 => ?_)
  · refine zx_aloadN dX6_takeNumber_21 rfl rfl ?_
    refine zx_iconst dX6_takeNumber_22 ?_
    refine zy_cvvR [zi 1] (sX6_fail (S := S) hfl hz (by omega) (by first | assumption | omega)) dX6_takeNumber_23 (by decide) rfl cw_RX6_58 okX6_fail rfl (Nat.le_of_ble_eq_true rfl) ⟨Nat.le_of_ble_eq_true rfl, Nat.le_of_ble_eq_true rfl, Nat.le_of_ble_eq_true rfl, Nat.le_of_ble_eq_true rfl⟩ (fun τ23 hr23 => ?_)
    have hz23 : zOK τ23 := hr23.1
    have hq : PC t n (pNum t n S x y) τ23 := by
      rw [pNum_1 (fun q => by have q1 := ps q.1; omega)]; exact hr23.2.2
    have hqn : ¬ (pNum t n S x y).2.1 = 0 := by
      rw [pNum_1 (fun q => by have q1 := ps q.1; omega)]; exact pF_nz (by decide)
    refine zx_iconst dX6_takeNumber_26 ?_
    refine zx_iret rfl rfl dX6_takeNumber_27 ?_
    rw [hQ]
    refine ⟨congrArg (fun z : Int => (Sum.inl (some (zi z)) : Option zV ⊕ String)) ?_, ?_⟩
    · first | exact (if_neg hqn).symm | (rw [if_pos hqn]; exact hvv)
    first | exact ⟨hz23, hr23.2.1, hq⟩ | exact ⟨hz23, hr78.2.1, hq⟩ | exact ⟨hz23, hr84.2.1, hq⟩
  · have h0 := PC_s hP (by omega)
    obtain ⟨e1, e2, e3, e4⟩ := ps h0
    refine zx_aloadN dX6_takeNumber_8 rfl rfl ?_
    refine zy_getI fl_RX6_25 rfl dX6_takeNumber_9 rfl ?_
    refine zx_aloadN dX6_takeNumber_12 rfl rfl ?_
    refine zy_getI fl_RX6_22 rfl dX6_takeNumber_13 rfl ?_
    refine zx_isub dX6_takeNumber_16 ?_
    refine zx_iconst dX6_takeNumber_17 ?_
    refine zx_icmp_le (tgt := 28) (by first | exact hz _ _ | assumption | exact zr_b _ | exact zcmp_r _ _ | (unfold zr at *; omega)) (by first | exact hz _ _ | assumption | exact zr_b _ | exact zcmp_r _ _ | (unfold zr at *; omega)) dX6_takeNumber_18 (by decide) (fun h18 => ?_) (fun h18 => ?_)
    · refine zx_iconst dX6_takeNumber_28 ?_
      refine zy_istoreN [zf 6 1, zi x, zi y, zi 0, zu] dX6_takeNumber_29 rfl (Nat.le_of_ble_eq_true rfl) (Nat.le_of_ble_eq_true rfl) rfl rfl ?_
      refine zx_aloadN dX6_takeNumber_30 rfl rfl ?_
      refine zy_getI fl_RX6_22 rfl dX6_takeNumber_31 rfl ?_
      refine zy_top (b := ((xS t n S.1 : Nat) : Int)) (e3) ?_
      refine zy_istore [zf 6 1, zi x, zi y, zi 0, zi ((xS t n S.1 : Nat) : Int)] dX6_takeNumber_34 (Nat.le_of_ble_eq_true rfl) (Nat.le_of_ble_eq_true rfl) rfl rfl ?_
      have L36 : ∀ (N : Nat) (k : Nat) (v : Int) (j : Nat), (j = xS t n S.1 + k ∧ j ≤ xE t n S.1) → (v = dv t (xS t n S.1) k) → (n + 1 - j) < N → zX l w mX6_takeNumber (zMQ w 2 0 Q) 36 [zf 6 1, zi x, zi y, zi v, zi ((j : Nat) : Int)] [] 0 σ := by
        intro N
        induction N with
        | zero => intro k v j _ _ _; exact absurd (by assumption) (Nat.not_lt_zero _)
        | succ N ih36 =>
          intro k v j hj hv hN
          refine zx_iload dX6_takeNumber_36 rfl ?_
          refine zx_aloadN dX6_takeNumber_38 rfl rfl ?_
          refine zy_getI fl_RX6_25 rfl dX6_takeNumber_39 rfl ?_
          refine zx_icmp_ge (tgt := 67) (by first | exact hz _ _ | assumption | exact zr_b _ | exact zcmp_r _ _ | (unfold zr at *; omega)) (by first | exact hz _ _ | assumption | exact zr_b _ | exact zcmp_r _ _ | (unfold zr at *; omega)) dX6_takeNumber_42 (by decide) (fun h42 => ?_) (fun h42 => ?_)
          · have hk : xK t n S.1 = 2 := by omega
            have hd := tok_d hk
            have hvv : v = pV t n S.1 := by rw [hv]; unfold pV; congr 1; omega
            have hv4 := dv_4 (t := t) (a := xS t n S.1) (k := xE t n S.1 - xS t n S.1) (by omega) (fun i hi => (hd.2 _ (by omega) (by omega)).2)
            have hzv : zr v := by rw [hvv]; unfold pV zr; omega
            have hok : S.2.1 = 0 ∧ xK t n S.1 = 2 ∧ xE t n S.1 - xS t n S.1 ≤ 4 := ⟨h0, hk, by omega⟩
            refine zx_iloadN dX6_takeNumber_67 rfl rfl ?_
            refine zx_iloadN dX6_takeNumber_68 rfl rfl ?_
            refine zx_iloadN dX6_takeNumber_69 rfl rfl ?_
            refine zy_cn [zi v, zi x, zi y] (sX9_isWithin  hfl hz (by first | exact hz _ _ | assumption | exact zr_b _ | exact zcmp_r _ _ | (unfold zr at *; omega)) (by first | exact hz _ _ | assumption | exact zr_b _ | exact zcmp_r _ _ | (unfold zr at *; omega)) (by first | exact hz _ _ | assumption | exact zr_b _ | exact zcmp_r _ _ | (unfold zr at *; omega))) dX6_takeNumber_70 cw_RX6_61 okX9_isWithin rfl (Nat.le_of_ble_eq_true rfl) ⟨Nat.le_of_ble_eq_true rfl, Nat.le_of_ble_eq_true rfl, Nat.le_of_ble_eq_true rfl, Nat.le_of_ble_eq_true rfl⟩ ?_
            refine zx_if_ne (tgt := 83) (by first | exact hz _ _ | assumption | exact zr_b _ | exact zcmp_r _ _ | (unfold zr at *; omega)) dX6_takeNumber_73 (by decide) (fun h73 => ?_) (fun h73 => ?_)
            · have h73 := zb_n.mp h73
              refine zx_aloadN dX6_takeNumber_83 rfl rfl ?_
              refine zy_cvvR [] (sX6_takeToken  hfl hz (by first | assumption | omega) (by first | assumption | omega)) dX6_takeNumber_84 (by decide) rfl cw_RX6_47 okX6_takeToken rfl (Nat.le_of_ble_eq_true rfl) ⟨Nat.le_of_ble_eq_true rfl, Nat.le_of_ble_eq_true rfl, Nat.le_of_ble_eq_true rfl, Nat.le_of_ble_eq_true rfl⟩ (fun τ84 hr84 => ?_)
              have hz84 : zOK τ84 := hr84.1
              have hq : PC t n (pNum t n S x y) τ84 := by
                rw [pNum_3 hok (by rw [← hvv]; assumption)]; exact hr84.2.2
              have hqn : (pNum t n S x y).2.1 = 0 := by
                rw [pNum_3 hok (by rw [← hvv]; assumption)]; exact h0
              refine zx_iloadN dX6_takeNumber_87 rfl rfl ?_
              refine zx_iret rfl rfl dX6_takeNumber_88 ?_
              rw [hQ]
              refine ⟨congrArg (fun z : Int => (Sum.inl (some (zi z)) : Option zV ⊕ String)) ?_, ?_⟩
              · first | exact (if_neg hqn).symm | (rw [if_pos hqn]; exact hvv)
              first | exact ⟨hz84, hr23.2.1, hq⟩ | exact ⟨hz84, hr78.2.1, hq⟩ | exact ⟨hz84, hr84.2.1, hq⟩
            · have h73 := zb_0.mp h73
              refine zx_aloadN dX6_takeNumber_76 rfl rfl ?_
              refine zx_iconst dX6_takeNumber_77 ?_
              refine zy_cvvR [zi 2] (sX6_fail  hfl hz (by omega) (by first | assumption | omega)) dX6_takeNumber_78 (by decide) rfl cw_RX6_58 okX6_fail rfl (Nat.le_of_ble_eq_true rfl) ⟨Nat.le_of_ble_eq_true rfl, Nat.le_of_ble_eq_true rfl, Nat.le_of_ble_eq_true rfl, Nat.le_of_ble_eq_true rfl⟩ (fun τ78 hr78 => ?_)
              have hz78 : zOK τ78 := hr78.1
              have hq : PC t n (pNum t n S x y) τ78 := by
                rw [pNum_2 hok (by rw [← hvv]; assumption)]; exact hr78.2.2
              have hqn : ¬ (pNum t n S x y).2.1 = 0 := by
                rw [pNum_2 hok (by rw [← hvv]; assumption)]; exact pF_nz (by decide)
              refine zx_iconst dX6_takeNumber_81 ?_
              refine zx_iret rfl rfl dX6_takeNumber_82 ?_
              rw [hQ]
              refine ⟨congrArg (fun z : Int => (Sum.inl (some (zi z)) : Option zV ⊕ String)) ?_, ?_⟩
              · first | exact (if_neg hqn).symm | (rw [if_pos hqn]; exact hvv)
              first | exact ⟨hz78, hr23.2.1, hq⟩ | exact ⟨hz78, hr78.2.1, hq⟩ | exact ⟨hz78, hr84.2.1, hq⟩
          · refine zx_bipush dX6_takeNumber_45 rfl ?_
            refine zx_iloadN dX6_takeNumber_47 rfl rfl ?_
            refine zx_imul dX6_takeNumber_48 ?_
            refine zx_aloadN dX6_takeNumber_49 rfl rfl ?_
            refine zy_getR (q' := 2) fl_RX6_9 rfl dX6_takeNumber_50 rfl ?_
            refine zx_iload dX6_takeNumber_53 rfl ?_
            refine zy_bald (v := σ.1 2 j) rfl (by decide) (by decide) dX6_takeNumber_55 (by omega) (by omega) rfl ?_
            refine zx_iadd dX6_takeNumber_56 ?_
            refine zx_bipush dX6_takeNumber_57 rfl ?_
            refine zx_isub dX6_takeNumber_59 ?_
            refine zy_istoreN [zf 6 1, zi x, zi y, zi (((10 * v) + (σ.1 2 j)) - 48), zi ((j : Nat) : Int)] dX6_takeNumber_60 rfl (Nat.le_of_ble_eq_true rfl) (Nat.le_of_ble_eq_true rfl) rfl rfl ?_
            refine zy_iinc (b := ((j + 1 : Nat) : Int)) [zf 6 1, zi x, zi y, zi (((10 * v) + (σ.1 2 j)) - 48), zi ((j + 1 : Nat) : Int)] dX6_takeNumber_61 rfl (by omega) (Nat.le_of_ble_eq_true rfl) rfl rfl ?_
            refine zx_goto (tgt := 36) dX6_takeNumber_64 (by decide) ?_
            exact ih36 (k + 1) (((10 * v) + (σ.1 2 j)) - 48) (j + 1) (by omega) (by rw [dv, ← hv, ← hj.1, ← pT j]) (by omega)
      exact L36 _ 0 0 (xS t n S.1) (by omega) rfl (Nat.lt_succ_self _)
    · refine zx_aloadN dX6_takeNumber_21 rfl rfl ?_
      refine zx_iconst dX6_takeNumber_22 ?_
      refine zy_cvvR [zi 1] (sX6_fail (S := S) hfl hz (by omega) (by first | assumption | omega)) dX6_takeNumber_23 (by decide) rfl cw_RX6_58 okX6_fail rfl (Nat.le_of_ble_eq_true rfl) ⟨Nat.le_of_ble_eq_true rfl, Nat.le_of_ble_eq_true rfl, Nat.le_of_ble_eq_true rfl, Nat.le_of_ble_eq_true rfl⟩ (fun τ23 hr23 => ?_)
      have hz23 : zOK τ23 := hr23.1
      have hq : PC t n (pNum t n S x y) τ23 := by
        rw [pNum_1 (fun q => by have q1 := ps q.1; omega)]; exact hr23.2.2
      have hqn : ¬ (pNum t n S x y).2.1 = 0 := by
        rw [pNum_1 (fun q => by have q1 := ps q.1; omega)]; exact pF_nz (by decide)
      refine zx_iconst dX6_takeNumber_26 ?_
      refine zx_iret rfl rfl dX6_takeNumber_27 ?_
      rw [hQ]
      refine ⟨congrArg (fun z : Int => (Sum.inl (some (zi z)) : Option zV ⊕ String)) ?_, ?_⟩
      · first | exact (if_neg hqn).symm | (rw [if_pos hqn]; exact hvv)
      first | exact ⟨hz23, hr23.2.1, hq⟩ | exact ⟨hz23, hr78.2.1, hq⟩ | exact ⟨hz23, hr84.2.1, hq⟩
set_option maxRecDepth 20000 in
set_option maxHeartbeats 2000000 in
theorem sX6_takeSemicolon {l : Launch} {w : zW} (hfl : l.stackTraces = false) {σ : zS} {t : Nat → Int} {n : Nat} {S : zP}  (hz : zOK σ) (hP : PC t n S σ) : Sp l w mX6_takeSemicolon 2 0 [zf 6 1] σ (zqv (some (zi (zb ((pSem t n S).2.1 = 0)))) (fun τ => zOK τ ∧ zSame (fun q => q = 1) σ τ ∧ PC t n (pSem t n S) τ)) := by
  obtain ⟨Q, hQ⟩ : ∃ Q : zQ, Q = (zqv (some (zi (zb ((pSem t n S).2.1 = 0)))) (fun τ => zOK τ ∧ zSame (fun q => q = 1) σ τ ∧ PC t n (pSem t n S) τ)) := ⟨_, rfl⟩
  rw [← hQ]
  refine zx_enter hfl (by decide) rfl 0 rfl ?_
  show zX l w mX6_takeSemicolon (zMQ w 2 0 Q) 0 [zf 6 1] [] 0 σ
  obtain ⟨pT, pn, pp, ⟨p5, p6⟩, ps, pu⟩ := id hP
  have hkr := xK_r t n S.1
  have hse := xE_le (t := t) pp
  refine zx_aloadN dX6_takeSemicolon_0 rfl rfl ?_
  refine zy_getI fl_RX6_19 rfl dX6_takeSemicolon_1 rfl ?_
  refine zx_iconst dX6_takeSemicolon_4 ?_
  refine zx_icmp_ne (tgt := 15) (by first | exact hz _ _ | assumption | exact zr_b _ | exact zcmp_r _ _ | (unfold zr at *; omega)) (by first | exact hz _ _ | assumption | exact zr_b _ | exact zcmp_r _ _ | (unfold zr at *; omega)) dX6_takeSemicolon_5 (by decide) (fun h5 => ?_) (fun h5 => ?_)
  · refine zx_aloadN dX6_takeSemicolon_15 rfl rfl ?_
    refine zx_iconst dX6_takeSemicolon_16 ?_
    refine zy_cvvR [zi 1] (sX6_fail  hfl hz (by omega) (by first | assumption | omega)) dX6_takeSemicolon_17 (by decide) rfl cw_RX6_58 okX6_fail rfl (Nat.le_of_ble_eq_true rfl) ⟨Nat.le_of_ble_eq_true rfl, Nat.le_of_ble_eq_true rfl, Nat.le_of_ble_eq_true rfl, Nat.le_of_ble_eq_true rfl⟩ (fun τ17 hr17 => ?_)
    have hz17 : zOK τ17 := hr17.1
    have hq : PC t n (pSem t n S) τ17 := by
      rw [pSem_n (fun q => by have q1 := ps q.1; omega)]; exact hr17.2.2
    refine zx_aloadN dX6_takeSemicolon_20 rfl rfl ?_
    refine zy_cv [] (sX6_isSound  hfl hz17 ) dX6_takeSemicolon_21 (by decide) rfl cw_RX6_50 okX6_isSound rfl (Nat.le_of_ble_eq_true rfl) ⟨Nat.le_of_ble_eq_true rfl, Nat.le_of_ble_eq_true rfl, Nat.le_of_ble_eq_true rfl, Nat.le_of_ble_eq_true rfl⟩ ?_
    refine zx_iret rfl (zb_nar _) dX6_takeSemicolon_24 ?_
    rw [hQ]
    refine ⟨congrArg (fun z : Int => (Sum.inl (some (zi z)) : Option zV ⊕ String)) ?_, ?_⟩
    · exact zb_c (by rw [hq.2.2.2.1.1])
    first | exact ⟨hz17, hr9.2.1, hq⟩ | exact ⟨hz17, hr17.2.1, hq⟩
  · have h0 := PC_s hP (by omega)
    obtain ⟨e1, e2, e3, e4⟩ := ps h0
    refine zx_aloadN dX6_takeSemicolon_8 rfl rfl ?_
    refine zy_cvvR [] (sX6_takeToken  hfl hz (by first | assumption | omega) (by first | assumption | omega)) dX6_takeSemicolon_9 (by decide) rfl cw_RX6_47 okX6_takeToken rfl (Nat.le_of_ble_eq_true rfl) ⟨Nat.le_of_ble_eq_true rfl, Nat.le_of_ble_eq_true rfl, Nat.le_of_ble_eq_true rfl, Nat.le_of_ble_eq_true rfl⟩ (fun τ9 hr9 => ?_)
    have hz9 : zOK τ9 := hr9.1
    have hq : PC t n (pSem t n S) τ9 := by rw [pSem_y h0 (by omega)]; exact hr9.2.2
    refine zx_goto (tgt := 20) dX6_takeSemicolon_12 (by decide) ?_
    refine zx_aloadN dX6_takeSemicolon_20 rfl rfl ?_
    refine zy_cv [] (sX6_isSound  hfl hz9 ) dX6_takeSemicolon_21 (by decide) rfl cw_RX6_50 okX6_isSound rfl (Nat.le_of_ble_eq_true rfl) ⟨Nat.le_of_ble_eq_true rfl, Nat.le_of_ble_eq_true rfl, Nat.le_of_ble_eq_true rfl, Nat.le_of_ble_eq_true rfl⟩ ?_
    refine zx_iret rfl (zb_nar _) dX6_takeSemicolon_24 ?_
    rw [hQ]
    refine ⟨congrArg (fun z : Int => (Sum.inl (some (zi z)) : Option zV ⊕ String)) ?_, ?_⟩
    · exact zb_c (by rw [hq.2.2.2.1.1])
    first | exact ⟨hz9, hr9.2.1, hq⟩ | exact ⟨hz9, hr17.2.1, hq⟩
set_option maxRecDepth 20000 in
set_option maxHeartbeats 2000000 in
theorem sX6_takeKind {l : Launch} {w : zW} (hfl : l.stackTraces = false) {σ : zS} {t : Nat → Int} {n : Nat} {S : zP}  (hz : zOK σ) (hP : PC t n S σ) : Sp l w mX6_takeKind 5 0 [zf 6 1] σ (zqv (some (zi (if S.2.1 = 0 then kdv t n S.1 else -1))) (fun τ => zOK τ ∧ zSame (fun q => q = 1) σ τ ∧ PC t n (pKd t n S) τ)) := by
  obtain ⟨Q, hQ⟩ : ∃ Q : zQ, Q = (zqv (some (zi (if S.2.1 = 0 then kdv t n S.1 else -1))) (fun τ => zOK τ ∧ zSame (fun q => q = 1) σ τ ∧ PC t n (pKd t n S) τ)) := ⟨_, rfl⟩
  rw [← hQ]
  refine zx_enter hfl (by decide) rfl 1 rfl ?_
  show zX l w mX6_takeKind (zMQ w 5 0 Q) 0 [zf 6 1, zu] [] 0 σ
  obtain ⟨pT, pn, pp, ⟨p5, p6⟩, ps, pu⟩ := id hP
  have hkr := xK_r t n S.1
  have hse := xE_le (t := t) pp
  refine zx_iconst dX6_takeKind_0 ?_
  refine zy_istoreN [zf 6 1, zi (-1)] dX6_takeKind_1 rfl (Nat.le_of_ble_eq_true rfl) (Nat.le_of_ble_eq_true rfl) rfl rfl ?_
  refine zx_aloadN dX6_takeKind_2 rfl rfl ?_
  refine zx_ldcS (List.mem_of_getElem? (i := 13) rfl) (by decide) dX6_takeKind_3 ?_
  refine zy_cv [zf 100 8] (sX6_isAt (j := 8) hfl hz (by first | assumption | omega)) dX6_takeKind_5 (by decide) rfl cw_RX6_67 okX6_isAt rfl (Nat.le_of_ble_eq_true rfl) ⟨Nat.le_of_ble_eq_true rfl, Nat.le_of_ble_eq_true rfl, Nat.le_of_ble_eq_true rfl, Nat.le_of_ble_eq_true rfl⟩ ?_
  refine zx_if_eq (tgt := 16) (by first | exact hz _ _ | assumption | exact zr_b _ | exact zcmp_r _ _ | (unfold zr at *; omega)) dX6_takeKind_8 (by decide) (fun h8 => ?_) (fun h8 => ?_)
  · have h8 := zb_0.mp h8
    refine zx_aloadN dX6_takeKind_16 rfl rfl ?_
    refine zx_ldcS (List.mem_of_getElem? (i := 14) rfl) (by decide) dX6_takeKind_17 ?_
    refine zy_cv [zf 100 9] (sX6_isAt (j := 9) hfl hz (by first | assumption | omega)) dX6_takeKind_19 (by decide) rfl cw_RX6_67 okX6_isAt rfl (Nat.le_of_ble_eq_true rfl) ⟨Nat.le_of_ble_eq_true rfl, Nat.le_of_ble_eq_true rfl, Nat.le_of_ble_eq_true rfl, Nat.le_of_ble_eq_true rfl⟩ ?_
    refine zx_if_eq (tgt := 30) (by first | exact hz _ _ | assumption | exact zr_b _ | exact zcmp_r _ _ | (unfold zr at *; omega)) dX6_takeKind_22 (by decide) (fun h22 => ?_) (fun h22 => ?_)
    · have h22 := zb_0.mp h22
      refine zx_aloadN dX6_takeKind_30 rfl rfl ?_
      refine zx_ldcS (List.mem_of_getElem? (i := 15) rfl) (by decide) dX6_takeKind_31 ?_
      refine zy_cv [zf 100 10] (sX6_isAt (j := 10) hfl hz (by first | assumption | omega)) dX6_takeKind_33 (by decide) rfl cw_RX6_67 okX6_isAt rfl (Nat.le_of_ble_eq_true rfl) ⟨Nat.le_of_ble_eq_true rfl, Nat.le_of_ble_eq_true rfl, Nat.le_of_ble_eq_true rfl, Nat.le_of_ble_eq_true rfl⟩ ?_
      refine zx_if_eq (tgt := 44) (by first | exact hz _ _ | assumption | exact zr_b _ | exact zcmp_r _ _ | (unfold zr at *; omega)) dX6_takeKind_36 (by decide) (fun h36 => ?_) (fun h36 => ?_)
      · have h36 := zb_0.mp h36
        refine zx_aloadN dX6_takeKind_44 rfl rfl ?_
        refine zx_ldcS (List.mem_of_getElem? (i := 16) rfl) (by decide) dX6_takeKind_45 ?_
        refine zy_cv [zf 100 13] (sX6_isAt (j := 13) hfl hz (by first | assumption | omega)) dX6_takeKind_47 (by decide) rfl cw_RX6_67 okX6_isAt rfl (Nat.le_of_ble_eq_true rfl) ⟨Nat.le_of_ble_eq_true rfl, Nat.le_of_ble_eq_true rfl, Nat.le_of_ble_eq_true rfl, Nat.le_of_ble_eq_true rfl⟩ ?_
        refine zx_if_eq (tgt := 58) (by first | exact hz _ _ | assumption | exact zr_b _ | exact zcmp_r _ _ | (unfold zr at *; omega)) dX6_takeKind_50 (by decide) (fun h50 => ?_) (fun h50 => ?_)
        · have h50 := zb_0.mp h50
          refine zx_aloadN dX6_takeKind_58 rfl rfl ?_
          refine zx_ldcS (List.mem_of_getElem? (i := 17) rfl) (by decide) dX6_takeKind_59 ?_
          refine zy_cv [zf 100 14] (sX6_isAt (j := 14) hfl hz (by first | assumption | omega)) dX6_takeKind_61 (by decide) rfl cw_RX6_67 okX6_isAt rfl (Nat.le_of_ble_eq_true rfl) ⟨Nat.le_of_ble_eq_true rfl, Nat.le_of_ble_eq_true rfl, Nat.le_of_ble_eq_true rfl, Nat.le_of_ble_eq_true rfl⟩ ?_
          refine zx_if_eq (tgt := 69) (by first | exact hz _ _ | assumption | exact zr_b _ | exact zcmp_r _ _ | (unfold zr at *; omega)) dX6_takeKind_64 (by decide) (fun h64 => ?_) (fun h64 => ?_)
          · have h64 := zb_0.mp h64
            refine zx_iloadN dX6_takeKind_69 rfl rfl ?_
            refine zx_iconst dX6_takeKind_70 ?_
            refine zx_icmp_ne (tgt := 82) (by first | exact hz _ _ | assumption | exact zr_b _ | exact zcmp_r _ _ | (unfold zr at *; omega)) (by first | exact hz _ _ | assumption | exact zr_b _ | exact zcmp_r _ _ | (unfold zr at *; omega)) dX6_takeKind_71 (by decide) (fun h71 => ?_) (fun h71 => ?_)
            · exact absurd h71 (by decide)
            · have hkn : S.2.1 = 0 → kdv t n S.1 = -1 := fun z => kdv_n (fun q => h8 ⟨z, q⟩) (fun q => h22 ⟨z, q⟩) (fun q => h36 ⟨z, q⟩) (fun q => h50 ⟨z, q⟩) (fun q => h64 ⟨z, q⟩)
              refine zx_aloadN dX6_takeKind_74 rfl rfl ?_
              refine zx_iconst dX6_takeKind_75 ?_
              refine zy_cvvR [zi 1] (sX6_fail  hfl hz (by omega) (by first | assumption | omega)) dX6_takeKind_76 (by decide) rfl cw_RX6_58 okX6_fail rfl (Nat.le_of_ble_eq_true rfl) ⟨Nat.le_of_ble_eq_true rfl, Nat.le_of_ble_eq_true rfl, Nat.le_of_ble_eq_true rfl, Nat.le_of_ble_eq_true rfl⟩ (fun τ76 hr76 => ?_)
              have hz76 : zOK τ76 := hr76.1
              have hq : PC t n (pKd t n S) τ76 := by rw [pKd_n hkn]; exact hr76.2.2
              refine zx_goto (tgt := 86) dX6_takeKind_79 (by decide) ?_
              refine zx_iloadN dX6_takeKind_86 rfl rfl ?_
              refine zx_iret rfl rfl dX6_takeKind_87 ?_
              rw [hQ]
              refine ⟨congrArg (fun z : Int => (Sum.inl (some (zi z)) : Option zV ⊕ String)) ?_, ?_⟩
              · first | (rw [if_pos hkv.1]; exact hkv.2.symm) | (split; (rename_i z; exact (hkn z).symm); rfl)
              first | exact ⟨hz76, hr83.2.1, hq⟩ | exact ⟨hz76, hr76.2.1, hq⟩
          · have h64 := zb_n.mp h64
            refine zx_iconst dX6_takeKind_67 ?_
            refine zy_istoreN [zf 6 1, zi 4] dX6_takeKind_68 rfl (Nat.le_of_ble_eq_true rfl) (Nat.le_of_ble_eq_true rfl) rfl rfl ?_
            refine zx_iloadN dX6_takeKind_69 rfl rfl ?_
            refine zx_iconst dX6_takeKind_70 ?_
            refine zx_icmp_ne (tgt := 82) (by first | exact hz _ _ | assumption | exact zr_b _ | exact zcmp_r _ _ | (unfold zr at *; omega)) (by first | exact hz _ _ | assumption | exact zr_b _ | exact zcmp_r _ _ | (unfold zr at *; omega)) dX6_takeKind_71 (by decide) (fun h71 => ?_) (fun h71 => ?_)
            · have hkv : S.2.1 = 0 ∧ kdv t n S.1 = 4 := ⟨h64.1, kdv_4 (fun q => h8 ⟨h64.1, q⟩) (fun q => h22 ⟨h64.1, q⟩) (fun q => h36 ⟨h64.1, q⟩) (fun q => h50 ⟨h64.1, q⟩) h64.2⟩
              refine zx_aloadN dX6_takeKind_82 rfl rfl ?_
              refine zy_cvvR [] (sX6_takeToken  hfl hz (by first | assumption | omega) hkv.1) dX6_takeKind_83 (by decide) rfl cw_RX6_47 okX6_takeToken rfl (Nat.le_of_ble_eq_true rfl) ⟨Nat.le_of_ble_eq_true rfl, Nat.le_of_ble_eq_true rfl, Nat.le_of_ble_eq_true rfl, Nat.le_of_ble_eq_true rfl⟩ (fun τ83 hr83 => ?_)
              have hz83 : zOK τ83 := hr83.1
              have hq : PC t n (pKd t n S) τ83 := by rw [pKd_y hkv.1 (by omega)]; exact hr83.2.2
              refine zx_iloadN dX6_takeKind_86 rfl rfl ?_
              refine zx_iret rfl rfl dX6_takeKind_87 ?_
              rw [hQ]
              refine ⟨congrArg (fun z : Int => (Sum.inl (some (zi z)) : Option zV ⊕ String)) ?_, ?_⟩
              · first | (rw [if_pos hkv.1]; exact hkv.2.symm) | (split; (rename_i z; exact (hkn z).symm); rfl)
              first | exact ⟨hz83, hr83.2.1, hq⟩ | exact ⟨hz83, hr76.2.1, hq⟩
            · exact absurd h71 (by decide)
        · have h50 := zb_n.mp h50
          refine zx_iconst dX6_takeKind_53 ?_
          refine zy_istoreN [zf 6 1, zi 3] dX6_takeKind_54 rfl (Nat.le_of_ble_eq_true rfl) (Nat.le_of_ble_eq_true rfl) rfl rfl ?_
          refine zx_goto (tgt := 69) dX6_takeKind_55 (by decide) ?_
          refine zx_iloadN dX6_takeKind_69 rfl rfl ?_
          refine zx_iconst dX6_takeKind_70 ?_
          refine zx_icmp_ne (tgt := 82) (by first | exact hz _ _ | assumption | exact zr_b _ | exact zcmp_r _ _ | (unfold zr at *; omega)) (by first | exact hz _ _ | assumption | exact zr_b _ | exact zcmp_r _ _ | (unfold zr at *; omega)) dX6_takeKind_71 (by decide) (fun h71 => ?_) (fun h71 => ?_)
          · have hkv : S.2.1 = 0 ∧ kdv t n S.1 = 3 := ⟨h50.1, kdv_3 (fun q => h8 ⟨h50.1, q⟩) (fun q => h22 ⟨h50.1, q⟩) (fun q => h36 ⟨h50.1, q⟩) h50.2⟩
            refine zx_aloadN dX6_takeKind_82 rfl rfl ?_
            refine zy_cvvR [] (sX6_takeToken  hfl hz (by first | assumption | omega) hkv.1) dX6_takeKind_83 (by decide) rfl cw_RX6_47 okX6_takeToken rfl (Nat.le_of_ble_eq_true rfl) ⟨Nat.le_of_ble_eq_true rfl, Nat.le_of_ble_eq_true rfl, Nat.le_of_ble_eq_true rfl, Nat.le_of_ble_eq_true rfl⟩ (fun τ83 hr83 => ?_)
            have hz83 : zOK τ83 := hr83.1
            have hq : PC t n (pKd t n S) τ83 := by rw [pKd_y hkv.1 (by omega)]; exact hr83.2.2
            refine zx_iloadN dX6_takeKind_86 rfl rfl ?_
            refine zx_iret rfl rfl dX6_takeKind_87 ?_
            rw [hQ]
            refine ⟨congrArg (fun z : Int => (Sum.inl (some (zi z)) : Option zV ⊕ String)) ?_, ?_⟩
            · first | (rw [if_pos hkv.1]; exact hkv.2.symm) | (split; (rename_i z; exact (hkn z).symm); rfl)
            first | exact ⟨hz83, hr83.2.1, hq⟩ | exact ⟨hz83, hr76.2.1, hq⟩
          · exact absurd h71 (by decide)
      · have h36 := zb_n.mp h36
        refine zx_iconst dX6_takeKind_39 ?_
        refine zy_istoreN [zf 6 1, zi 2] dX6_takeKind_40 rfl (Nat.le_of_ble_eq_true rfl) (Nat.le_of_ble_eq_true rfl) rfl rfl ?_
        refine zx_goto (tgt := 69) dX6_takeKind_41 (by decide) ?_
        refine zx_iloadN dX6_takeKind_69 rfl rfl ?_
        refine zx_iconst dX6_takeKind_70 ?_
        refine zx_icmp_ne (tgt := 82) (by first | exact hz _ _ | assumption | exact zr_b _ | exact zcmp_r _ _ | (unfold zr at *; omega)) (by first | exact hz _ _ | assumption | exact zr_b _ | exact zcmp_r _ _ | (unfold zr at *; omega)) dX6_takeKind_71 (by decide) (fun h71 => ?_) (fun h71 => ?_)
        · have hkv : S.2.1 = 0 ∧ kdv t n S.1 = 2 := ⟨h36.1, kdv_2 (fun q => h8 ⟨h36.1, q⟩) (fun q => h22 ⟨h36.1, q⟩) h36.2⟩
          refine zx_aloadN dX6_takeKind_82 rfl rfl ?_
          refine zy_cvvR [] (sX6_takeToken  hfl hz (by first | assumption | omega) hkv.1) dX6_takeKind_83 (by decide) rfl cw_RX6_47 okX6_takeToken rfl (Nat.le_of_ble_eq_true rfl) ⟨Nat.le_of_ble_eq_true rfl, Nat.le_of_ble_eq_true rfl, Nat.le_of_ble_eq_true rfl, Nat.le_of_ble_eq_true rfl⟩ (fun τ83 hr83 => ?_)
          have hz83 : zOK τ83 := hr83.1
          have hq : PC t n (pKd t n S) τ83 := by rw [pKd_y hkv.1 (by omega)]; exact hr83.2.2
          refine zx_iloadN dX6_takeKind_86 rfl rfl ?_
          refine zx_iret rfl rfl dX6_takeKind_87 ?_
          rw [hQ]
          refine ⟨congrArg (fun z : Int => (Sum.inl (some (zi z)) : Option zV ⊕ String)) ?_, ?_⟩
          · first | (rw [if_pos hkv.1]; exact hkv.2.symm) | (split; (rename_i z; exact (hkn z).symm); rfl)
          first | exact ⟨hz83, hr83.2.1, hq⟩ | exact ⟨hz83, hr76.2.1, hq⟩
        · exact absurd h71 (by decide)
    · have h22 := zb_n.mp h22
      refine zx_iconst dX6_takeKind_25 ?_
      refine zy_istoreN [zf 6 1, zi 1] dX6_takeKind_26 rfl (Nat.le_of_ble_eq_true rfl) (Nat.le_of_ble_eq_true rfl) rfl rfl ?_
      refine zx_goto (tgt := 69) dX6_takeKind_27 (by decide) ?_
      refine zx_iloadN dX6_takeKind_69 rfl rfl ?_
      refine zx_iconst dX6_takeKind_70 ?_
      refine zx_icmp_ne (tgt := 82) (by first | exact hz _ _ | assumption | exact zr_b _ | exact zcmp_r _ _ | (unfold zr at *; omega)) (by first | exact hz _ _ | assumption | exact zr_b _ | exact zcmp_r _ _ | (unfold zr at *; omega)) dX6_takeKind_71 (by decide) (fun h71 => ?_) (fun h71 => ?_)
      · have hkv : S.2.1 = 0 ∧ kdv t n S.1 = 1 := ⟨h22.1, kdv_1 (fun q => h8 ⟨h22.1, q⟩) h22.2⟩
        refine zx_aloadN dX6_takeKind_82 rfl rfl ?_
        refine zy_cvvR [] (sX6_takeToken  hfl hz (by first | assumption | omega) hkv.1) dX6_takeKind_83 (by decide) rfl cw_RX6_47 okX6_takeToken rfl (Nat.le_of_ble_eq_true rfl) ⟨Nat.le_of_ble_eq_true rfl, Nat.le_of_ble_eq_true rfl, Nat.le_of_ble_eq_true rfl, Nat.le_of_ble_eq_true rfl⟩ (fun τ83 hr83 => ?_)
        have hz83 : zOK τ83 := hr83.1
        have hq : PC t n (pKd t n S) τ83 := by rw [pKd_y hkv.1 (by omega)]; exact hr83.2.2
        refine zx_iloadN dX6_takeKind_86 rfl rfl ?_
        refine zx_iret rfl rfl dX6_takeKind_87 ?_
        rw [hQ]
        refine ⟨congrArg (fun z : Int => (Sum.inl (some (zi z)) : Option zV ⊕ String)) ?_, ?_⟩
        · first | (rw [if_pos hkv.1]; exact hkv.2.symm) | (split; (rename_i z; exact (hkn z).symm); rfl)
        first | exact ⟨hz83, hr83.2.1, hq⟩ | exact ⟨hz83, hr76.2.1, hq⟩
      · exact absurd h71 (by decide)
  · have h8 := zb_n.mp h8
    refine zx_iconst dX6_takeKind_11 ?_
    refine zy_istoreN [zf 6 1, zi 0] dX6_takeKind_12 rfl (Nat.le_of_ble_eq_true rfl) (Nat.le_of_ble_eq_true rfl) rfl rfl ?_
    refine zx_goto (tgt := 69) dX6_takeKind_13 (by decide) ?_
    refine zx_iloadN dX6_takeKind_69 rfl rfl ?_
    refine zx_iconst dX6_takeKind_70 ?_
    refine zx_icmp_ne (tgt := 82) (by first | exact hz _ _ | assumption | exact zr_b _ | exact zcmp_r _ _ | (unfold zr at *; omega)) (by first | exact hz _ _ | assumption | exact zr_b _ | exact zcmp_r _ _ | (unfold zr at *; omega)) dX6_takeKind_71 (by decide) (fun h71 => ?_) (fun h71 => ?_)
    · have hkv : S.2.1 = 0 ∧ kdv t n S.1 = 0 := ⟨h8.1, kdv_0 h8.2⟩
      refine zx_aloadN dX6_takeKind_82 rfl rfl ?_
      refine zy_cvvR [] (sX6_takeToken  hfl hz (by first | assumption | omega) hkv.1) dX6_takeKind_83 (by decide) rfl cw_RX6_47 okX6_takeToken rfl (Nat.le_of_ble_eq_true rfl) ⟨Nat.le_of_ble_eq_true rfl, Nat.le_of_ble_eq_true rfl, Nat.le_of_ble_eq_true rfl, Nat.le_of_ble_eq_true rfl⟩ (fun τ83 hr83 => ?_)
      have hz83 : zOK τ83 := hr83.1
      have hq : PC t n (pKd t n S) τ83 := by rw [pKd_y hkv.1 (by omega)]; exact hr83.2.2
      refine zx_iloadN dX6_takeKind_86 rfl rfl ?_
      refine zx_iret rfl rfl dX6_takeKind_87 ?_
      rw [hQ]
      refine ⟨congrArg (fun z : Int => (Sum.inl (some (zi z)) : Option zV ⊕ String)) ?_, ?_⟩
      · first | (rw [if_pos hkv.1]; exact hkv.2.symm) | (split; (rename_i z; exact (hkn z).symm); rfl)
      first | exact ⟨hz83, hr83.2.1, hq⟩ | exact ⟨hz83, hr76.2.1, hq⟩
    · exact absurd h71 (by decide)
set_option maxRecDepth 20000 in
set_option maxHeartbeats 2000000 in
theorem sX6_packedName {l : Launch} {w : zW} (hfl : l.stackTraces = false) {σ : zS} {t : Nat → Int} {n : Nat} {a b : Nat} (hz : zOK σ) (hT : ∀ i : Nat, σ.1 2 i = t i) (hn : σ.1 1 1 = (n : Int) ∧ n ≤ 1400) (hab : a ≤ b ∧ b ≤ n) : Sp l w mX6_packedName 1 0 [zf 6 1, zi ((a : Nat) : Int), zi ((b : Nat) : Int)] σ (zret (zi (pkv t a b)) σ) := by
  obtain ⟨Q, hQ⟩ : ∃ Q : zQ, Q = (zret (zi (pkv t a b)) σ) := ⟨_, rfl⟩
  rw [← hQ]
  refine zx_enter hfl (by decide) rfl 2 rfl ?_
  show zX l w mX6_packedName (zMQ w 1 0 Q) 0 [zf 6 1, zi ((a : Nat) : Int), zi ((b : Nat) : Int), zu, zu] [] 0 σ
  refine zx_iloadN dX6_packedName_0 rfl rfl ?_
  refine zx_if_lt (tgt := 24) (by first | exact hz _ _ | assumption | exact zr_b _ | exact zcmp_r _ _ | exact zr_t _ | (unfold zr at *; omega)) dX6_packedName_1 (by decide) (fun h1 => ?_) (fun h1 => ?_)
  · refine zx_iconst dX6_packedName_24 ?_
    refine zx_iret rfl rfl dX6_packedName_25 ?_
    rw [hQ]
    refine ⟨congrArg (fun z : Int => (Sum.inl (some (zi z)) : Option zV ⊕ String)) ?_, by first | rfl | (exfalso; omega)⟩
    unfold pkv
    first
    | (rw [if_neg (fun q => by have := q.1; omega)])
    | (rw [if_neg (fun q => h48 (kb_1.mpr (q.2 j (by omega) (by omega))))])
    | (rw [if_pos ⟨by omega, fun i h1 h2 => by have := hw (i - a) (by omega); rw [show a + (i - a) = i by omega] at this; exact this⟩, hv]; congr 1; omega)
  · refine zx_iloadN dX6_packedName_4 rfl rfl ?_
    refine zx_aloadN dX6_packedName_5 rfl rfl ?_
    refine zy_getI fl_RX6_15 rfl dX6_packedName_6 rfl ?_
    refine zx_icmp_gt (tgt := 24) (by first | exact hz _ _ | assumption | exact zr_b _ | exact zcmp_r _ _ | exact zr_t _ | (unfold zr at *; omega)) (by first | exact hz _ _ | assumption | exact zr_b _ | exact zcmp_r _ _ | exact zr_t _ | (unfold zr at *; omega)) dX6_packedName_9 (by decide) (fun h9 => ?_) (fun h9 => ?_)
    · refine zx_iconst dX6_packedName_24 ?_
      refine zx_iret rfl rfl dX6_packedName_25 ?_
      rw [hQ]
      refine ⟨congrArg (fun z : Int => (Sum.inl (some (zi z)) : Option zV ⊕ String)) ?_, by first | rfl | (exfalso; omega)⟩
      unfold pkv
      first
      | (rw [if_neg (fun q => by have := q.1; omega)])
      | (rw [if_neg (fun q => h48 (kb_1.mpr (q.2 j (by omega) (by omega))))])
      | (rw [if_pos ⟨by omega, fun i h1 h2 => by have := hw (i - a) (by omega); rw [show a + (i - a) = i by omega] at this; exact this⟩, hv]; congr 1; omega)
    · refine zx_iloadN dX6_packedName_12 rfl rfl ?_
      refine zx_iloadN dX6_packedName_13 rfl rfl ?_
      refine zx_isub dX6_packedName_14 ?_
      refine zx_iconst dX6_packedName_15 ?_
      refine zx_bipush dX6_packedName_16 rfl ?_
      refine zy_cn [zi (((b : Nat) : Int) - ((a : Nat) : Int)), zi 1, zi 6] (sX9_isWithin  hfl hz (by first | exact hz _ _ | assumption | exact zr_b _ | exact zcmp_r _ _ | exact zr_t _ | (unfold zr at *; omega)) (by first | exact hz _ _ | assumption | exact zr_b _ | exact zcmp_r _ _ | exact zr_t _ | (unfold zr at *; omega)) (by first | exact hz _ _ | assumption | exact zr_b _ | exact zcmp_r _ _ | exact zr_t _ | (unfold zr at *; omega))) dX6_packedName_18 cw_RX6_61 okX9_isWithin rfl (Nat.le_of_ble_eq_true rfl) ⟨Nat.le_of_ble_eq_true rfl, Nat.le_of_ble_eq_true rfl, Nat.le_of_ble_eq_true rfl, Nat.le_of_ble_eq_true rfl⟩ ?_
      refine zx_if_ne (tgt := 26) (by first | exact hz _ _ | assumption | exact zr_b _ | exact zcmp_r _ _ | exact zr_t _ | (unfold zr at *; omega)) dX6_packedName_21 (by decide) (fun h21 => ?_) (fun h21 => ?_)
      · have h21 := zb_n.mp h21
        refine zx_iconst dX6_packedName_26 ?_
        refine zy_istoreN [zf 6 1, zi ((a : Nat) : Int), zi ((b : Nat) : Int), zi 0, zu] dX6_packedName_27 rfl (Nat.le_of_ble_eq_true rfl) (Nat.le_of_ble_eq_true rfl) rfl rfl ?_
        refine zx_iloadN dX6_packedName_28 rfl rfl ?_
        refine zy_istore [zf 6 1, zi ((a : Nat) : Int), zi ((b : Nat) : Int), zi 0, zi ((a : Nat) : Int)] dX6_packedName_29 (Nat.le_of_ble_eq_true rfl) (Nat.le_of_ble_eq_true rfl) rfl rfl ?_
        have L31 : ∀ (N : Nat) (k : Nat) (v : Int) (j : Nat), (j = a + k ∧ j ≤ b) → (∀ i, i < k → isWd t (a + i)) → (v = pkF (fun i => t (a + i)) k) → (b + 1 - j) < N → zX l w mX6_packedName (zMQ w 1 0 Q) 31 [zf 6 1, zi ((a : Nat) : Int), zi ((b : Nat) : Int), zi v, zi ((j : Nat) : Int)] [] 0 σ := by
          intro N
          induction N with
          | zero => intro k v j _ _ _ _; exact absurd (by assumption) (Nat.not_lt_zero _)
          | succ N ih31 =>
            intro k v j hj hw hv hN
            refine zx_iload dX6_packedName_31 rfl ?_
            refine zx_iloadN dX6_packedName_33 rfl rfl ?_
            refine zx_icmp_ge (tgt := 76) (by first | exact hz _ _ | assumption | exact zr_b _ | exact zcmp_r _ _ | exact zr_t _ | (unfold zr at *; omega)) (by first | exact hz _ _ | assumption | exact zr_b _ | exact zcmp_r _ _ | exact zr_t _ | (unfold zr at *; omega)) dX6_packedName_34 (by decide) (fun h34 => ?_) (fun h34 => ?_)
            · refine zx_iloadN dX6_packedName_76 rfl rfl ?_
              refine zx_iret rfl rfl dX6_packedName_77 ?_
              rw [hQ]
              refine ⟨congrArg (fun z : Int => (Sum.inl (some (zi z)) : Option zV ⊕ String)) ?_, by first | rfl | (exfalso; omega)⟩
              unfold pkv
              first
              | (rw [if_neg (fun q => by have := q.1; omega)])
              | (rw [if_neg (fun q => h48 (kb_1.mpr (q.2 j (by omega) (by omega))))])
              | (rw [if_pos ⟨by omega, fun i h1 h2 => by have := hw (i - a) (by omega); rw [show a + (i - a) = i by omega] at this; exact this⟩, hv]; congr 1; omega)
            · refine zx_aloadN dX6_packedName_37 rfl rfl ?_
              refine zy_getR (q' := 2) fl_RX6_9 rfl dX6_packedName_38 rfl ?_
              refine zx_iload dX6_packedName_41 rfl ?_
              refine zy_bald (v := σ.1 2 j) rfl (by decide) (by decide) dX6_packedName_43 (by omega) (by omega) rfl ?_
              refine zy_cs [zi (σ.1 2 j)] (sX6_kindOfByte  hfl hz (by first | exact hz _ _ | assumption | exact zr_b _ | exact zcmp_r _ _ | exact zr_t _ | (unfold zr at *; omega))) dX6_packedName_44 cw_RX6_54 okX6_kindOfByte rfl (Nat.le_of_ble_eq_true rfl) ⟨Nat.le_of_ble_eq_true rfl, Nat.le_of_ble_eq_true rfl, Nat.le_of_ble_eq_true rfl, Nat.le_of_ble_eq_true rfl⟩ ?_
              refine zy_top (b := kb (t j)) (by rw [hT j]) ?_
              have hkb := kb_r (t j)
              refine zx_iconst dX6_packedName_47 ?_
              refine zx_icmp_eq (tgt := 53) (by first | exact hz _ _ | assumption | exact zr_b _ | exact zcmp_r _ _ | exact zr_t _ | (unfold zr at *; omega)) (by first | exact hz _ _ | assumption | exact zr_b _ | exact zcmp_r _ _ | exact zr_t _ | (unfold zr at *; omega)) dX6_packedName_48 (by decide) (fun h48 => ?_) (fun h48 => ?_)
              · have hwj : isWd t j := kb_1.mp (by omega)
                have hpb := pkF_b (f := fun i => t (a + i)) (n := k) (by omega) (fun i hi => hw i hi)
                have hp5 : 32 ^ k ≤ 32 ^ 5 := Nat.pow_le_pow_right (by omega) (by omega)
                have e5 : (32 : Nat) ^ 5 = 33554432 := by decide
                rw [← hv] at hpb
                refine zx_iloadN dX6_packedName_53 rfl rfl ?_
                refine zx_iconst dX6_packedName_54 ?_
                refine zx_ishl dX6_packedName_55 ?_
                refine zx_aloadN dX6_packedName_56 rfl rfl ?_
                refine zy_getR (q' := 2) fl_RX6_9 rfl dX6_packedName_57 rfl ?_
                refine zx_iload dX6_packedName_60 rfl ?_
                refine zy_bald (v := σ.1 2 j) rfl (by decide) (by decide) dX6_packedName_62 (by omega) (by omega) rfl ?_
                refine zx_bipush dX6_packedName_63 rfl ?_
                refine zx_isub dX6_packedName_65 ?_
                refine zx_iconst dX6_packedName_66 ?_
                refine zx_iadd dX6_packedName_67 ?_
                refine zx_ior dX6_packedName_68 ?_
                refine zy_istoreN [zf 6 1, zi ((a : Nat) : Int), zi ((b : Nat) : Int), zi (zor (zshl v 5) (((σ.1 2 j) - 97) + 1)), zi ((j : Nat) : Int)] dX6_packedName_69 rfl (Nat.le_of_ble_eq_true rfl) (Nat.le_of_ble_eq_true rfl) rfl rfl ?_
                refine zy_iinc (b := ((j + 1 : Nat) : Int)) [zf 6 1, zi ((a : Nat) : Int), zi ((b : Nat) : Int), zi (zor (zshl v 5) (((σ.1 2 j) - 97) + 1)), zi ((j + 1 : Nat) : Int)] dX6_packedName_70 rfl (by omega) (Nat.le_of_ble_eq_true rfl) rfl rfl ?_
                refine zx_goto (tgt := 31) dX6_packedName_73 (by decide) ?_
                exact ih31 (k + 1) (zor (zshl v 5) (((σ.1 2 j) - 97) + 1)) (j + 1) (by omega) (lt_s hw (by rw [← hj.1]; exact hwj)) (by rw [pkF, ← hv, zor_add hpb.1 (by omega) (by rw [hT j]; have := hwj; unfold isWd at this; omega), hT j, hj.1]; omega) (by omega)
              · refine zx_iconst dX6_packedName_51 ?_
                refine zx_iret rfl rfl dX6_packedName_52 ?_
                rw [hQ]
                refine ⟨congrArg (fun z : Int => (Sum.inl (some (zi z)) : Option zV ⊕ String)) ?_, by first | rfl | (exfalso; omega)⟩
                unfold pkv
                first
                | (rw [if_neg (fun q => by have := q.1; omega)])
                | (rw [if_neg (fun q => h48 (kb_1.mpr (q.2 j (by omega) (by omega))))])
                | (rw [if_pos ⟨by omega, fun i h1 h2 => by have := hw (i - a) (by omega); rw [show a + (i - a) = i by omega] at this; exact this⟩, hv]; congr 1; omega)
        exact L31 _ 0 0 a (by omega) (fun i hi => absurd hi (Nat.not_lt_zero i)) rfl (Nat.lt_succ_self _)
      · have h21 := zb_0.mp h21
        refine zx_iconst dX6_packedName_24 ?_
        refine zx_iret rfl rfl dX6_packedName_25 ?_
        rw [hQ]
        refine ⟨congrArg (fun z : Int => (Sum.inl (some (zi z)) : Option zV ⊕ String)) ?_, by first | rfl | (exfalso; omega)⟩
        unfold pkv
        first
        | (rw [if_neg (fun q => by have := q.1; omega)])
        | (rw [if_neg (fun q => h48 (kb_1.mpr (q.2 j (by omega) (by omega))))])
        | (rw [if_pos ⟨by omega, fun i h1 h2 => by have := hw (i - a) (by omega); rw [show a + (i - a) = i by omega] at this; exact this⟩, hv]; congr 1; omega)
set_option maxRecDepth 20000 in
set_option maxHeartbeats 2000000 in
theorem sX6_takeNewName {l : Launch} {w : zW} (hfl : l.stackTraces = false) {σ : zS} {t : Nat → Int} {n : Nat} {S : zP} {a : Nat} (hz : zOK σ) (hP : PC t n S σ) (hPa : 0 ≤ σ.1 a 0 ∧ σ.1 a 0 ≤ 8) : Sp l w mX6_takeNewName 2 0 [zf 6 1, zf 0 a] σ (zqv (some (zi (nmv t n S))) (fun τ => zOK τ ∧ zSame (fun q => q = 1) σ τ ∧ PC t n (pNew t n (σ.1 (a + 1)) (σ.1 a 0) S) τ)) := by
  obtain ⟨Q, hQ⟩ : ∃ Q : zQ, Q = (zqv (some (zi (nmv t n S))) (fun τ => zOK τ ∧ zSame (fun q => q = 1) σ τ ∧ PC t n (pNew t n (σ.1 (a + 1)) (σ.1 a 0) S) τ)) := ⟨_, rfl⟩
  rw [← hQ]
  refine zx_enter hfl (by decide) rfl 1 rfl ?_
  show zX l w mX6_takeNewName (zMQ w 2 0 Q) 0 [zf 6 1, zf 0 a, zu] [] 0 σ
  obtain ⟨pT, pn, pp, ⟨p5, p6⟩, ps, pu⟩ := id hP
  have hkr := xK_r t n S.1
  have hse := xE_le (t := t) pp
  have hzn := nmv_z t n S pp
  have hfr := fz_r (σ.1 (a + 1)) hPa (nmv t n S)
  refine zx_aloadN dX6_takeNewName_0 rfl rfl ?_
  refine zy_getI fl_RX6_19 rfl dX6_takeNewName_1 rfl ?_
  refine zx_iconst dX6_takeNewName_4 ?_
  refine zx_icmp_ne (tgt := 23) (by first | exact hz _ _ | assumption | exact zr_b _ | exact zcmp_r _ _ | (unfold zr at *; omega)) (by first | exact hz _ _ | assumption | exact zr_b _ | exact zcmp_r _ _ | (unfold zr at *; omega)) dX6_takeNewName_5 (by decide) (fun h5 => ?_) (fun h5 => ?_)
  · refine zx_iconst dX6_takeNewName_23 ?_
    refine zy_top (b := nmv t n S) (by first | exact pkv_n h0 (by omega) pp | exact (nmv_0 (fun q => by have q1 := ps q.1; omega)).symm) ?_
    refine zy_istoreN [zf 6 1, zf 0 a, zi (nmv t n S)] dX6_takeNewName_24 rfl (Nat.le_of_ble_eq_true rfl) (Nat.le_of_ble_eq_true rfl) rfl rfl ?_
    refine zx_iloadN dX6_takeNewName_25 rfl rfl ?_
    refine zx_if_ne (tgt := 37) (by first | exact hz _ _ | assumption | exact zr_b _ | exact zcmp_r _ _ | (unfold zr at *; omega)) dX6_takeNewName_26 (by decide) (fun h26 => ?_) (fun h26 => ?_)
    · refine zx_aloadN dX6_takeNewName_37 rfl rfl ?_
      refine zx_iloadN dX6_takeNewName_38 rfl rfl ?_
      refine zy_cv [zi (nmv t n S)] (sX0_printerNamed  hfl hz (by first | exact hz _ _ | assumption | exact zr_b _ | exact zcmp_r _ _ | (unfold zr at *; omega)) (by first | assumption | omega)) dX6_takeNewName_39 (by decide) rfl cw_RX6_83 okX0_printerNamed rfl (Nat.le_of_ble_eq_true rfl) ⟨Nat.le_of_ble_eq_true rfl, Nat.le_of_ble_eq_true rfl, Nat.le_of_ble_eq_true rfl, Nat.le_of_ble_eq_true rfl⟩ ?_
      refine zy_top (b := fz (σ.1 (a + 1)) (σ.1 a 0) (nmv t n S)) (rfl) ?_
      refine zx_iconst dX6_takeNewName_42 ?_
      refine zx_icmp_eq (tgt := 54) (by first | exact hz _ _ | assumption | exact zr_b _ | exact zcmp_r _ _ | (unfold zr at *; omega)) (by first | exact hz _ _ | assumption | exact zr_b _ | exact zcmp_r _ _ | (unfold zr at *; omega)) dX6_takeNewName_43 (by decide) (fun h43 => ?_) (fun h43 => ?_)
      · refine zx_aloadN dX6_takeNewName_54 rfl rfl ?_
        refine zy_cvvR [] (sX6_takeToken  hfl hz (by first | assumption | omega) (nmv_s (by assumption))) dX6_takeNewName_55 (by decide) rfl cw_RX6_47 okX6_takeToken rfl (Nat.le_of_ble_eq_true rfl) ⟨Nat.le_of_ble_eq_true rfl, Nat.le_of_ble_eq_true rfl, Nat.le_of_ble_eq_true rfl, Nat.le_of_ble_eq_true rfl⟩ (fun τ55 hr55 => ?_)
        have hz55 : zOK τ55 := hr55.1
        have hq : PC t n (pNew t n (σ.1 (a + 1)) (σ.1 a 0) S) τ55 := by rw [pNew_y (by assumption) (by assumption)]; exact hr55.2.2
        refine zx_iloadN dX6_takeNewName_58 rfl rfl ?_
        refine zx_iret rfl rfl dX6_takeNewName_59 ?_
        rw [hQ]
        refine ⟨congrArg (fun z : Int => (Sum.inl (some (zi z)) : Option zV ⊕ String)) ?_, ?_⟩
        · rfl
        first | exact ⟨hz55, hr31.2.1, hq⟩ | exact ⟨hz55, hr48.2.1, hq⟩ | exact ⟨hz55, hr55.2.1, hq⟩
      · refine zx_aloadN dX6_takeNewName_46 rfl rfl ?_
        refine zx_iconst dX6_takeNewName_47 ?_
        refine zy_cvvR [zi 3] (sX6_fail  hfl hz (by omega) (by first | assumption | omega)) dX6_takeNewName_48 (by decide) rfl cw_RX6_58 okX6_fail rfl (Nat.le_of_ble_eq_true rfl) ⟨Nat.le_of_ble_eq_true rfl, Nat.le_of_ble_eq_true rfl, Nat.le_of_ble_eq_true rfl, Nat.le_of_ble_eq_true rfl⟩ (fun τ48 hr48 => ?_)
        have hz48 : zOK τ48 := hr48.1
        have hq : PC t n (pNew t n (σ.1 (a + 1)) (σ.1 a 0) S) τ48 := by rw [pNew_3 (by assumption) (by assumption)]; exact hr48.2.2
        refine zx_goto (tgt := 58) dX6_takeNewName_51 (by decide) ?_
        refine zx_iloadN dX6_takeNewName_58 rfl rfl ?_
        refine zx_iret rfl rfl dX6_takeNewName_59 ?_
        rw [hQ]
        refine ⟨congrArg (fun z : Int => (Sum.inl (some (zi z)) : Option zV ⊕ String)) ?_, ?_⟩
        · rfl
        first | exact ⟨hz48, hr31.2.1, hq⟩ | exact ⟨hz48, hr48.2.1, hq⟩ | exact ⟨hz48, hr55.2.1, hq⟩
    · refine zx_aloadN dX6_takeNewName_29 rfl rfl ?_
      refine zx_iconst dX6_takeNewName_30 ?_
      refine zy_cvvR [zi 1] (sX6_fail  hfl hz (by omega) (by first | assumption | omega)) dX6_takeNewName_31 (by decide) rfl cw_RX6_58 okX6_fail rfl (Nat.le_of_ble_eq_true rfl) ⟨Nat.le_of_ble_eq_true rfl, Nat.le_of_ble_eq_true rfl, Nat.le_of_ble_eq_true rfl, Nat.le_of_ble_eq_true rfl⟩ (fun τ31 hr31 => ?_)
      have hz31 : zOK τ31 := hr31.1
      have hq : PC t n (pNew t n (σ.1 (a + 1)) (σ.1 a 0) S) τ31 := by rw [pNew_1 (by assumption)]; exact hr31.2.2
      refine zx_goto (tgt := 58) dX6_takeNewName_34 (by decide) ?_
      refine zx_iloadN dX6_takeNewName_58 rfl rfl ?_
      refine zx_iret rfl rfl dX6_takeNewName_59 ?_
      rw [hQ]
      refine ⟨congrArg (fun z : Int => (Sum.inl (some (zi z)) : Option zV ⊕ String)) ?_, ?_⟩
      · rfl
      first | exact ⟨hz31, hr31.2.1, hq⟩ | exact ⟨hz31, hr48.2.1, hq⟩ | exact ⟨hz31, hr55.2.1, hq⟩
  · have h0 := PC_s hP (by omega)
    obtain ⟨e1, e2, e3, e4⟩ := ps h0
    refine zx_aloadN dX6_takeNewName_8 rfl rfl ?_
    refine zx_aloadN dX6_takeNewName_9 rfl rfl ?_
    refine zy_getI fl_RX6_22 rfl dX6_takeNewName_10 rfl ?_
    refine zy_top (b := ((xS t n S.1 : Nat) : Int)) (e3) ?_
    refine zx_aloadN dX6_takeNewName_13 rfl rfl ?_
    refine zy_getI fl_RX6_25 rfl dX6_takeNewName_14 rfl ?_
    refine zy_top (b := ((xE t n S.1 : Nat) : Int)) (e4) ?_
    refine zy_cv [zi ((xS t n S.1 : Nat) : Int), zi ((xE t n S.1 : Nat) : Int)] (sX6_packedName (a := (xS t n S.1)) (b := (xE t n S.1)) hfl hz pT pn hse) dX6_takeNewName_17 (by decide) rfl cw_RX6_79 okX6_packedName rfl (Nat.le_of_ble_eq_true rfl) ⟨Nat.le_of_ble_eq_true rfl, Nat.le_of_ble_eq_true rfl, Nat.le_of_ble_eq_true rfl, Nat.le_of_ble_eq_true rfl⟩ ?_
    refine zx_goto (tgt := 24) dX6_takeNewName_20 (by decide) ?_
    refine zy_top (b := nmv t n S) (by first | exact pkv_n h0 (by omega) pp | exact (nmv_0 (fun q => by have q1 := ps q.1; omega)).symm) ?_
    refine zy_istoreN [zf 6 1, zf 0 a, zi (nmv t n S)] dX6_takeNewName_24 rfl (Nat.le_of_ble_eq_true rfl) (Nat.le_of_ble_eq_true rfl) rfl rfl ?_
    refine zx_iloadN dX6_takeNewName_25 rfl rfl ?_
    refine zx_if_ne (tgt := 37) (by first | exact hz _ _ | assumption | exact zr_b _ | exact zcmp_r _ _ | (unfold zr at *; omega)) dX6_takeNewName_26 (by decide) (fun h26 => ?_) (fun h26 => ?_)
    · refine zx_aloadN dX6_takeNewName_37 rfl rfl ?_
      refine zx_iloadN dX6_takeNewName_38 rfl rfl ?_
      refine zy_cv [zi (nmv t n S)] (sX0_printerNamed  hfl hz (by first | exact hz _ _ | assumption | exact zr_b _ | exact zcmp_r _ _ | (unfold zr at *; omega)) (by first | assumption | omega)) dX6_takeNewName_39 (by decide) rfl cw_RX6_83 okX0_printerNamed rfl (Nat.le_of_ble_eq_true rfl) ⟨Nat.le_of_ble_eq_true rfl, Nat.le_of_ble_eq_true rfl, Nat.le_of_ble_eq_true rfl, Nat.le_of_ble_eq_true rfl⟩ ?_
      refine zy_top (b := fz (σ.1 (a + 1)) (σ.1 a 0) (nmv t n S)) (rfl) ?_
      refine zx_iconst dX6_takeNewName_42 ?_
      refine zx_icmp_eq (tgt := 54) (by first | exact hz _ _ | assumption | exact zr_b _ | exact zcmp_r _ _ | (unfold zr at *; omega)) (by first | exact hz _ _ | assumption | exact zr_b _ | exact zcmp_r _ _ | (unfold zr at *; omega)) dX6_takeNewName_43 (by decide) (fun h43 => ?_) (fun h43 => ?_)
      · refine zx_aloadN dX6_takeNewName_54 rfl rfl ?_
        refine zy_cvvR [] (sX6_takeToken  hfl hz (by first | assumption | omega) (nmv_s (by assumption))) dX6_takeNewName_55 (by decide) rfl cw_RX6_47 okX6_takeToken rfl (Nat.le_of_ble_eq_true rfl) ⟨Nat.le_of_ble_eq_true rfl, Nat.le_of_ble_eq_true rfl, Nat.le_of_ble_eq_true rfl, Nat.le_of_ble_eq_true rfl⟩ (fun τ55 hr55 => ?_)
        have hz55 : zOK τ55 := hr55.1
        have hq : PC t n (pNew t n (σ.1 (a + 1)) (σ.1 a 0) S) τ55 := by rw [pNew_y (by assumption) (by assumption)]; exact hr55.2.2
        refine zx_iloadN dX6_takeNewName_58 rfl rfl ?_
        refine zx_iret rfl rfl dX6_takeNewName_59 ?_
        rw [hQ]
        refine ⟨congrArg (fun z : Int => (Sum.inl (some (zi z)) : Option zV ⊕ String)) ?_, ?_⟩
        · rfl
        first | exact ⟨hz55, hr31.2.1, hq⟩ | exact ⟨hz55, hr48.2.1, hq⟩ | exact ⟨hz55, hr55.2.1, hq⟩
      · refine zx_aloadN dX6_takeNewName_46 rfl rfl ?_
        refine zx_iconst dX6_takeNewName_47 ?_
        refine zy_cvvR [zi 3] (sX6_fail  hfl hz (by omega) (by first | assumption | omega)) dX6_takeNewName_48 (by decide) rfl cw_RX6_58 okX6_fail rfl (Nat.le_of_ble_eq_true rfl) ⟨Nat.le_of_ble_eq_true rfl, Nat.le_of_ble_eq_true rfl, Nat.le_of_ble_eq_true rfl, Nat.le_of_ble_eq_true rfl⟩ (fun τ48 hr48 => ?_)
        have hz48 : zOK τ48 := hr48.1
        have hq : PC t n (pNew t n (σ.1 (a + 1)) (σ.1 a 0) S) τ48 := by rw [pNew_3 (by assumption) (by assumption)]; exact hr48.2.2
        refine zx_goto (tgt := 58) dX6_takeNewName_51 (by decide) ?_
        refine zx_iloadN dX6_takeNewName_58 rfl rfl ?_
        refine zx_iret rfl rfl dX6_takeNewName_59 ?_
        rw [hQ]
        refine ⟨congrArg (fun z : Int => (Sum.inl (some (zi z)) : Option zV ⊕ String)) ?_, ?_⟩
        · rfl
        first | exact ⟨hz48, hr31.2.1, hq⟩ | exact ⟨hz48, hr48.2.1, hq⟩ | exact ⟨hz48, hr55.2.1, hq⟩
    · refine zx_aloadN dX6_takeNewName_29 rfl rfl ?_
      refine zx_iconst dX6_takeNewName_30 ?_
      refine zy_cvvR [zi 1] (sX6_fail  hfl hz (by omega) (by first | assumption | omega)) dX6_takeNewName_31 (by decide) rfl cw_RX6_58 okX6_fail rfl (Nat.le_of_ble_eq_true rfl) ⟨Nat.le_of_ble_eq_true rfl, Nat.le_of_ble_eq_true rfl, Nat.le_of_ble_eq_true rfl, Nat.le_of_ble_eq_true rfl⟩ (fun τ31 hr31 => ?_)
      have hz31 : zOK τ31 := hr31.1
      have hq : PC t n (pNew t n (σ.1 (a + 1)) (σ.1 a 0) S) τ31 := by rw [pNew_1 (by assumption)]; exact hr31.2.2
      refine zx_goto (tgt := 58) dX6_takeNewName_34 (by decide) ?_
      refine zx_iloadN dX6_takeNewName_58 rfl rfl ?_
      refine zx_iret rfl rfl dX6_takeNewName_59 ?_
      rw [hQ]
      refine ⟨congrArg (fun z : Int => (Sum.inl (some (zi z)) : Option zV ⊕ String)) ?_, ?_⟩
      · rfl
      first | exact ⟨hz31, hr31.2.1, hq⟩ | exact ⟨hz31, hr48.2.1, hq⟩ | exact ⟨hz31, hr55.2.1, hq⟩
set_option maxRecDepth 20000 in
set_option maxHeartbeats 2000000 in
theorem sX6_takePrinter {l : Launch} {w : zW} (hfl : l.stackTraces = false) {σ : zS} {t : Nat → Int} {n : Nat} {S : zP} {a : Nat} (hz : zOK σ) (hP : PC t n S σ) (hPa : 0 ≤ σ.1 a 0 ∧ σ.1 a 0 ≤ 8) : Sp l w mX6_takePrinter 2 0 [zf 6 1, zf 0 a] σ (zqv (some (zi (fz (σ.1 (a + 1)) (σ.1 a 0) (nmv t n S)))) (fun τ => zOK τ ∧ zSame (fun q => q = 1) σ τ ∧ PC t n (pPrn t n (σ.1 (a + 1)) (σ.1 a 0) S) τ)) := by
  obtain ⟨Q, hQ⟩ : ∃ Q : zQ, Q = (zqv (some (zi (fz (σ.1 (a + 1)) (σ.1 a 0) (nmv t n S)))) (fun τ => zOK τ ∧ zSame (fun q => q = 1) σ τ ∧ PC t n (pPrn t n (σ.1 (a + 1)) (σ.1 a 0) S) τ)) := ⟨_, rfl⟩
  rw [← hQ]
  refine zx_enter hfl (by decide) rfl 2 rfl ?_
  show zX l w mX6_takePrinter (zMQ w 2 0 Q) 0 [zf 6 1, zf 0 a, zu, zu] [] 0 σ
  obtain ⟨pT, pn, pp, ⟨p5, p6⟩, ps, pu⟩ := id hP
  have hkr := xK_r t n S.1
  have hse := xE_le (t := t) pp
  have hzn := nmv_z t n S pp
  have hfr := fz_r (σ.1 (a + 1)) hPa (nmv t n S)
  refine zx_aloadN dX6_takePrinter_0 rfl rfl ?_
  refine zy_getI fl_RX6_19 rfl dX6_takePrinter_1 rfl ?_
  refine zx_iconst dX6_takePrinter_4 ?_
  refine zx_icmp_ne (tgt := 23) (by first | exact hz _ _ | assumption | exact zr_b _ | exact zcmp_r _ _ | (unfold zr at *; omega)) (by first | exact hz _ _ | assumption | exact zr_b _ | exact zcmp_r _ _ | (unfold zr at *; omega)) dX6_takePrinter_5 (by decide) (fun h5 => ?_) (fun h5 => ?_)
  · refine zx_iconst dX6_takePrinter_23 ?_
    refine zy_top (b := nmv t n S) (by first | exact pkv_n h0 (by omega) pp | exact (nmv_0 (fun q => by have q1 := ps q.1; omega)).symm) ?_
    refine zy_istoreN [zf 6 1, zf 0 a, zi (nmv t n S), zu] dX6_takePrinter_24 rfl (Nat.le_of_ble_eq_true rfl) (Nat.le_of_ble_eq_true rfl) rfl rfl ?_
    refine zx_aloadN dX6_takePrinter_25 rfl rfl ?_
    refine zx_iloadN dX6_takePrinter_26 rfl rfl ?_
    refine zy_cv [zi (nmv t n S)] (sX0_printerNamed  hfl hz (by first | exact hz _ _ | assumption | exact zr_b _ | exact zcmp_r _ _ | (unfold zr at *; omega)) (by first | assumption | omega)) dX6_takePrinter_27 (by decide) rfl cw_RX6_83 okX0_printerNamed rfl (Nat.le_of_ble_eq_true rfl) ⟨Nat.le_of_ble_eq_true rfl, Nat.le_of_ble_eq_true rfl, Nat.le_of_ble_eq_true rfl, Nat.le_of_ble_eq_true rfl⟩ ?_
    refine zy_top (b := fz (σ.1 (a + 1)) (σ.1 a 0) (nmv t n S)) (rfl) ?_
    refine zy_istoreN [zf 6 1, zf 0 a, zi (nmv t n S), zi (fz (σ.1 (a + 1)) (σ.1 a 0) (nmv t n S))] dX6_takePrinter_30 rfl (Nat.le_of_ble_eq_true rfl) (Nat.le_of_ble_eq_true rfl) rfl rfl ?_
    refine zx_iloadN dX6_takePrinter_31 rfl rfl ?_
    refine zx_if_ne (tgt := 43) (by first | exact hz _ _ | assumption | exact zr_b _ | exact zcmp_r _ _ | (unfold zr at *; omega)) dX6_takePrinter_32 (by decide) (fun h32 => ?_) (fun h32 => ?_)
    · refine zx_iloadN dX6_takePrinter_43 rfl rfl ?_
      refine zx_iconst dX6_takePrinter_44 ?_
      refine zx_icmp_ne (tgt := 56) (by first | exact hz _ _ | assumption | exact zr_b _ | exact zcmp_r _ _ | (unfold zr at *; omega)) (by first | exact hz _ _ | assumption | exact zr_b _ | exact zcmp_r _ _ | (unfold zr at *; omega)) dX6_takePrinter_45 (by decide) (fun h45 => ?_) (fun h45 => ?_)
      · refine zx_aloadN dX6_takePrinter_56 rfl rfl ?_
        refine zy_cvvR [] (sX6_takeToken  hfl hz (by first | assumption | omega) (nmv_s (by assumption))) dX6_takePrinter_57 (by decide) rfl cw_RX6_47 okX6_takeToken rfl (Nat.le_of_ble_eq_true rfl) ⟨Nat.le_of_ble_eq_true rfl, Nat.le_of_ble_eq_true rfl, Nat.le_of_ble_eq_true rfl, Nat.le_of_ble_eq_true rfl⟩ (fun τ57 hr57 => ?_)
        have hz57 : zOK τ57 := hr57.1
        have hq : PC t n (pPrn t n (σ.1 (a + 1)) (σ.1 a 0) S) τ57 := by rw [pPrn_y (by assumption) (by assumption)]; exact hr57.2.2
        refine zx_iloadN dX6_takePrinter_60 rfl rfl ?_
        refine zx_iret rfl rfl dX6_takePrinter_61 ?_
        rw [hQ]
        refine ⟨congrArg (fun z : Int => (Sum.inl (some (zi z)) : Option zV ⊕ String)) ?_, ?_⟩
        · rfl
        first | exact ⟨hz57, hr37.2.1, hq⟩ | exact ⟨hz57, hr50.2.1, hq⟩ | exact ⟨hz57, hr57.2.1, hq⟩
      · refine zx_aloadN dX6_takePrinter_48 rfl rfl ?_
        refine zx_iconst dX6_takePrinter_49 ?_
        refine zy_cvvR [zi 3] (sX6_fail  hfl hz (by omega) (by first | assumption | omega)) dX6_takePrinter_50 (by decide) rfl cw_RX6_58 okX6_fail rfl (Nat.le_of_ble_eq_true rfl) ⟨Nat.le_of_ble_eq_true rfl, Nat.le_of_ble_eq_true rfl, Nat.le_of_ble_eq_true rfl, Nat.le_of_ble_eq_true rfl⟩ (fun τ50 hr50 => ?_)
        have hz50 : zOK τ50 := hr50.1
        have hq : PC t n (pPrn t n (σ.1 (a + 1)) (σ.1 a 0) S) τ50 := by rw [pPrn_3 (by assumption) (by assumption)]; exact hr50.2.2
        refine zx_goto (tgt := 60) dX6_takePrinter_53 (by decide) ?_
        refine zx_iloadN dX6_takePrinter_60 rfl rfl ?_
        refine zx_iret rfl rfl dX6_takePrinter_61 ?_
        rw [hQ]
        refine ⟨congrArg (fun z : Int => (Sum.inl (some (zi z)) : Option zV ⊕ String)) ?_, ?_⟩
        · rfl
        first | exact ⟨hz50, hr37.2.1, hq⟩ | exact ⟨hz50, hr50.2.1, hq⟩ | exact ⟨hz50, hr57.2.1, hq⟩
    · refine zx_aloadN dX6_takePrinter_35 rfl rfl ?_
      refine zx_iconst dX6_takePrinter_36 ?_
      refine zy_cvvR [zi 1] (sX6_fail  hfl hz (by omega) (by first | assumption | omega)) dX6_takePrinter_37 (by decide) rfl cw_RX6_58 okX6_fail rfl (Nat.le_of_ble_eq_true rfl) ⟨Nat.le_of_ble_eq_true rfl, Nat.le_of_ble_eq_true rfl, Nat.le_of_ble_eq_true rfl, Nat.le_of_ble_eq_true rfl⟩ (fun τ37 hr37 => ?_)
      have hz37 : zOK τ37 := hr37.1
      have hq : PC t n (pPrn t n (σ.1 (a + 1)) (σ.1 a 0) S) τ37 := by rw [pPrn_1 (by assumption)]; exact hr37.2.2
      refine zx_goto (tgt := 60) dX6_takePrinter_40 (by decide) ?_
      refine zx_iloadN dX6_takePrinter_60 rfl rfl ?_
      refine zx_iret rfl rfl dX6_takePrinter_61 ?_
      rw [hQ]
      refine ⟨congrArg (fun z : Int => (Sum.inl (some (zi z)) : Option zV ⊕ String)) ?_, ?_⟩
      · rfl
      first | exact ⟨hz37, hr37.2.1, hq⟩ | exact ⟨hz37, hr50.2.1, hq⟩ | exact ⟨hz37, hr57.2.1, hq⟩
  · have h0 := PC_s hP (by omega)
    obtain ⟨e1, e2, e3, e4⟩ := ps h0
    refine zx_aloadN dX6_takePrinter_8 rfl rfl ?_
    refine zx_aloadN dX6_takePrinter_9 rfl rfl ?_
    refine zy_getI fl_RX6_22 rfl dX6_takePrinter_10 rfl ?_
    refine zy_top (b := ((xS t n S.1 : Nat) : Int)) (e3) ?_
    refine zx_aloadN dX6_takePrinter_13 rfl rfl ?_
    refine zy_getI fl_RX6_25 rfl dX6_takePrinter_14 rfl ?_
    refine zy_top (b := ((xE t n S.1 : Nat) : Int)) (e4) ?_
    refine zy_cv [zi ((xS t n S.1 : Nat) : Int), zi ((xE t n S.1 : Nat) : Int)] (sX6_packedName (a := (xS t n S.1)) (b := (xE t n S.1)) hfl hz pT pn hse) dX6_takePrinter_17 (by decide) rfl cw_RX6_79 okX6_packedName rfl (Nat.le_of_ble_eq_true rfl) ⟨Nat.le_of_ble_eq_true rfl, Nat.le_of_ble_eq_true rfl, Nat.le_of_ble_eq_true rfl, Nat.le_of_ble_eq_true rfl⟩ ?_
    refine zx_goto (tgt := 24) dX6_takePrinter_20 (by decide) ?_
    refine zy_top (b := nmv t n S) (by first | exact pkv_n h0 (by omega) pp | exact (nmv_0 (fun q => by have q1 := ps q.1; omega)).symm) ?_
    refine zy_istoreN [zf 6 1, zf 0 a, zi (nmv t n S), zu] dX6_takePrinter_24 rfl (Nat.le_of_ble_eq_true rfl) (Nat.le_of_ble_eq_true rfl) rfl rfl ?_
    refine zx_aloadN dX6_takePrinter_25 rfl rfl ?_
    refine zx_iloadN dX6_takePrinter_26 rfl rfl ?_
    refine zy_cv [zi (nmv t n S)] (sX0_printerNamed  hfl hz (by first | exact hz _ _ | assumption | exact zr_b _ | exact zcmp_r _ _ | (unfold zr at *; omega)) (by first | assumption | omega)) dX6_takePrinter_27 (by decide) rfl cw_RX6_83 okX0_printerNamed rfl (Nat.le_of_ble_eq_true rfl) ⟨Nat.le_of_ble_eq_true rfl, Nat.le_of_ble_eq_true rfl, Nat.le_of_ble_eq_true rfl, Nat.le_of_ble_eq_true rfl⟩ ?_
    refine zy_top (b := fz (σ.1 (a + 1)) (σ.1 a 0) (nmv t n S)) (rfl) ?_
    refine zy_istoreN [zf 6 1, zf 0 a, zi (nmv t n S), zi (fz (σ.1 (a + 1)) (σ.1 a 0) (nmv t n S))] dX6_takePrinter_30 rfl (Nat.le_of_ble_eq_true rfl) (Nat.le_of_ble_eq_true rfl) rfl rfl ?_
    refine zx_iloadN dX6_takePrinter_31 rfl rfl ?_
    refine zx_if_ne (tgt := 43) (by first | exact hz _ _ | assumption | exact zr_b _ | exact zcmp_r _ _ | (unfold zr at *; omega)) dX6_takePrinter_32 (by decide) (fun h32 => ?_) (fun h32 => ?_)
    · refine zx_iloadN dX6_takePrinter_43 rfl rfl ?_
      refine zx_iconst dX6_takePrinter_44 ?_
      refine zx_icmp_ne (tgt := 56) (by first | exact hz _ _ | assumption | exact zr_b _ | exact zcmp_r _ _ | (unfold zr at *; omega)) (by first | exact hz _ _ | assumption | exact zr_b _ | exact zcmp_r _ _ | (unfold zr at *; omega)) dX6_takePrinter_45 (by decide) (fun h45 => ?_) (fun h45 => ?_)
      · refine zx_aloadN dX6_takePrinter_56 rfl rfl ?_
        refine zy_cvvR [] (sX6_takeToken  hfl hz (by first | assumption | omega) (nmv_s (by assumption))) dX6_takePrinter_57 (by decide) rfl cw_RX6_47 okX6_takeToken rfl (Nat.le_of_ble_eq_true rfl) ⟨Nat.le_of_ble_eq_true rfl, Nat.le_of_ble_eq_true rfl, Nat.le_of_ble_eq_true rfl, Nat.le_of_ble_eq_true rfl⟩ (fun τ57 hr57 => ?_)
        have hz57 : zOK τ57 := hr57.1
        have hq : PC t n (pPrn t n (σ.1 (a + 1)) (σ.1 a 0) S) τ57 := by rw [pPrn_y (by assumption) (by assumption)]; exact hr57.2.2
        refine zx_iloadN dX6_takePrinter_60 rfl rfl ?_
        refine zx_iret rfl rfl dX6_takePrinter_61 ?_
        rw [hQ]
        refine ⟨congrArg (fun z : Int => (Sum.inl (some (zi z)) : Option zV ⊕ String)) ?_, ?_⟩
        · rfl
        first | exact ⟨hz57, hr37.2.1, hq⟩ | exact ⟨hz57, hr50.2.1, hq⟩ | exact ⟨hz57, hr57.2.1, hq⟩
      · refine zx_aloadN dX6_takePrinter_48 rfl rfl ?_
        refine zx_iconst dX6_takePrinter_49 ?_
        refine zy_cvvR [zi 3] (sX6_fail  hfl hz (by omega) (by first | assumption | omega)) dX6_takePrinter_50 (by decide) rfl cw_RX6_58 okX6_fail rfl (Nat.le_of_ble_eq_true rfl) ⟨Nat.le_of_ble_eq_true rfl, Nat.le_of_ble_eq_true rfl, Nat.le_of_ble_eq_true rfl, Nat.le_of_ble_eq_true rfl⟩ (fun τ50 hr50 => ?_)
        have hz50 : zOK τ50 := hr50.1
        have hq : PC t n (pPrn t n (σ.1 (a + 1)) (σ.1 a 0) S) τ50 := by rw [pPrn_3 (by assumption) (by assumption)]; exact hr50.2.2
        refine zx_goto (tgt := 60) dX6_takePrinter_53 (by decide) ?_
        refine zx_iloadN dX6_takePrinter_60 rfl rfl ?_
        refine zx_iret rfl rfl dX6_takePrinter_61 ?_
        rw [hQ]
        refine ⟨congrArg (fun z : Int => (Sum.inl (some (zi z)) : Option zV ⊕ String)) ?_, ?_⟩
        · rfl
        first | exact ⟨hz50, hr37.2.1, hq⟩ | exact ⟨hz50, hr50.2.1, hq⟩ | exact ⟨hz50, hr57.2.1, hq⟩
    · refine zx_aloadN dX6_takePrinter_35 rfl rfl ?_
      refine zx_iconst dX6_takePrinter_36 ?_
      refine zy_cvvR [zi 1] (sX6_fail  hfl hz (by omega) (by first | assumption | omega)) dX6_takePrinter_37 (by decide) rfl cw_RX6_58 okX6_fail rfl (Nat.le_of_ble_eq_true rfl) ⟨Nat.le_of_ble_eq_true rfl, Nat.le_of_ble_eq_true rfl, Nat.le_of_ble_eq_true rfl, Nat.le_of_ble_eq_true rfl⟩ (fun τ37 hr37 => ?_)
      have hz37 : zOK τ37 := hr37.1
      have hq : PC t n (pPrn t n (σ.1 (a + 1)) (σ.1 a 0) S) τ37 := by rw [pPrn_1 (by assumption)]; exact hr37.2.2
      refine zx_goto (tgt := 60) dX6_takePrinter_40 (by decide) ?_
      refine zx_iloadN dX6_takePrinter_60 rfl rfl ?_
      refine zx_iret rfl rfl dX6_takePrinter_61 ?_
      rw [hQ]
      refine ⟨congrArg (fun z : Int => (Sum.inl (some (zi z)) : Option zV ⊕ String)) ?_, ?_⟩
      · rfl
      first | exact ⟨hz37, hr37.2.1, hq⟩ | exact ⟨hz37, hr50.2.1, hq⟩ | exact ⟨hz37, hr57.2.1, hq⟩

