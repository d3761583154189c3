abbrev mX6_hasRoomFor : zM := (yX6_hasRoomFor, cX6_hasRoomFor, 2, (some .boolean), [])
theorem okX6_hasRoomFor : zMok mX6_hasRoomFor 1 := ⟨by decide, by decide, by decide +kernel⟩
theorem dX6_hasRoomFor_0 : decode cX6_hasRoomFor 0 = .ok (.iload_n 1, 1) := by decide +kernel
theorem dX6_hasRoomFor_1 : decode cX6_hasRoomFor 1 = .ok (.ifCond .lt 19, 3) := by decide +kernel
theorem dX6_hasRoomFor_20 : decode cX6_hasRoomFor 20 = .ok (.iconst 0, 1) := by decide +kernel
theorem dX6_hasRoomFor_21 : decode cX6_hasRoomFor 21 = .ok (.ireturn, 1) := by decide +kernel
theorem dX6_hasRoomFor_4 : decode cX6_hasRoomFor 4 = .ok (.iload_n 1, 1) := by decide +kernel
theorem dX6_hasRoomFor_5 : decode cX6_hasRoomFor 5 = .ok (.sipush 1400, 3) := by decide +kernel
theorem dX6_hasRoomFor_8 : decode cX6_hasRoomFor 8 = .ok (.aload_n 0, 1) := by decide +kernel
theorem dX6_hasRoomFor_9 : decode cX6_hasRoomFor 9 = .ok (.getfield 15, 3) := by decide +kernel
theorem fl_RX6_15 : zFl RX6 15 6 1 := ⟨RX6, TX6, 7, rfl, by decide, zmem1 152 (by decide +kernel) rfl, rfl⟩
theorem dX6_hasRoomFor_12 : decode cX6_hasRoomFor 12 = .ok (.isub, 1) := by decide +kernel
theorem dX6_hasRoomFor_13 : decode cX6_hasRoomFor 13 = .ok (.if_icmp .gt 7, 3) := by decide +kernel
theorem dX6_hasRoomFor_16 : decode cX6_hasRoomFor 16 = .ok (.iconst 1, 1) := by decide +kernel
theorem dX6_hasRoomFor_17 : decode cX6_hasRoomFor 17 = .ok (.goto 4, 3) := by decide +kernel
abbrev mX6_addByte : zM := (yX6_addByte, cX6_addByte, 2, none, [])
theorem okX6_addByte : zMok mX6_addByte 1 := ⟨by decide, by decide, by decide +kernel⟩
theorem dX6_addByte_0 : decode cX6_addByte 0 = .ok (.aload_n 0, 1) := by decide +kernel
theorem dX6_addByte_1 : decode cX6_addByte 1 = .ok (.getfield 15, 3) := by decide +kernel
theorem dX6_addByte_4 : decode cX6_addByte 4 = .ok (.ifCond .lt 36, 3) := by decide +kernel
theorem dX6_addByte_40 : decode cX6_addByte 40 = .ok (.return_, 1) := by decide +kernel
theorem dX6_addByte_7 : decode cX6_addByte 7 = .ok (.aload_n 0, 1) := by decide +kernel
theorem dX6_addByte_8 : decode cX6_addByte 8 = .ok (.getfield 15, 3) := by decide +kernel
theorem dX6_addByte_11 : decode cX6_addByte 11 = .ok (.aload_n 0, 1) := by decide +kernel
theorem dX6_addByte_12 : decode cX6_addByte 12 = .ok (.getfield 9, 3) := by decide +kernel
theorem fl_RX6_9 : zFl RX6 9 6 0 := ⟨RX6, TX6, 7, rfl, by decide, zmem1 151 (by decide +kernel) rfl, rfl⟩
theorem dX6_addByte_15 : decode cX6_addByte 15 = .ok (.arraylength, 1) := by decide +kernel
theorem dX6_addByte_16 : decode cX6_addByte 16 = .ok (.if_icmp .ge 24, 3) := by decide +kernel
theorem dX6_addByte_19 : decode cX6_addByte 19 = .ok (.aload_n 0, 1) := by decide +kernel
theorem dX6_addByte_20 : decode cX6_addByte 20 = .ok (.getfield 9, 3) := by decide +kernel
theorem dX6_addByte_23 : decode cX6_addByte 23 = .ok (.aload_n 0, 1) := by decide +kernel
theorem dX6_addByte_24 : decode cX6_addByte 24 = .ok (.getfield 15, 3) := by decide +kernel
theorem dX6_addByte_27 : decode cX6_addByte 27 = .ok (.iload_n 1, 1) := by decide +kernel
theorem dX6_addByte_28 : decode cX6_addByte 28 = .ok (.i2b, 1) := by decide +kernel
theorem dX6_addByte_29 : decode cX6_addByte 29 = .ok (.bastore, 1) := by decide +kernel
theorem dX6_addByte_30 : decode cX6_addByte 30 = .ok (.aload_n 0, 1) := by decide +kernel
theorem dX6_addByte_31 : decode cX6_addByte 31 = .ok (.dup, 1) := by decide +kernel
theorem dX6_addByte_32 : decode cX6_addByte 32 = .ok (.getfield 15, 3) := by decide +kernel
theorem dX6_addByte_35 : decode cX6_addByte 35 = .ok (.iconst 1, 1) := by decide +kernel
theorem dX6_addByte_36 : decode cX6_addByte 36 = .ok (.iadd, 1) := by decide +kernel
theorem dX6_addByte_37 : decode cX6_addByte 37 = .ok (.putfield 15, 3) := by decide +kernel
theorem fp_6_1 : zFi 6 1 "I" := ⟨RX6, TX6, 7, rfl, rfl, rfl⟩
abbrev mX6_addFourBytes : zM := (yX6_addFourBytes, cX6_addFourBytes, 2, none, [])
theorem okX6_addFourBytes : zMok mX6_addFourBytes 1 := ⟨by decide, by decide, by decide +kernel⟩
theorem dX6_addFourBytes_0 : decode cX6_addFourBytes 0 = .ok (.aload_n 0, 1) := by decide +kernel
theorem dX6_addFourBytes_1 : decode cX6_addFourBytes 1 = .ok (.iload_n 1, 1) := by decide +kernel
theorem dX6_addFourBytes_2 : decode cX6_addFourBytes 2 = .ok (.bipush 24, 2) := by decide +kernel
theorem dX6_addFourBytes_4 : decode cX6_addFourBytes 4 = .ok (.iushr, 1) := by decide +kernel
theorem dX6_addFourBytes_5 : decode cX6_addFourBytes 5 = .ok (.invokevirtual 34, 3) := by decide +kernel
theorem cw_RX6_34 : zCwV RX6 34 mX6_addByte := zall [466, 468, 0, 114, 469] (by decide +kernel) (by decide +kernel)
theorem dX6_addFourBytes_8 : decode cX6_addFourBytes 8 = .ok (.aload_n 0, 1) := by decide +kernel
theorem dX6_addFourBytes_9 : decode cX6_addFourBytes 9 = .ok (.iload_n 1, 1) := by decide +kernel
theorem dX6_addFourBytes_10 : decode cX6_addFourBytes 10 = .ok (.bipush 16, 2) := by decide +kernel
theorem dX6_addFourBytes_12 : decode cX6_addFourBytes 12 = .ok (.iushr, 1) := by decide +kernel
theorem dX6_addFourBytes_13 : decode cX6_addFourBytes 13 = .ok (.invokevirtual 34, 3) := by decide +kernel
theorem dX6_addFourBytes_16 : decode cX6_addFourBytes 16 = .ok (.aload_n 0, 1) := by decide +kernel
theorem dX6_addFourBytes_17 : decode cX6_addFourBytes 17 = .ok (.iload_n 1, 1) := by decide +kernel
theorem dX6_addFourBytes_18 : decode cX6_addFourBytes 18 = .ok (.bipush 8, 2) := by decide +kernel
theorem dX6_addFourBytes_20 : decode cX6_addFourBytes 20 = .ok (.iushr, 1) := by decide +kernel
theorem dX6_addFourBytes_21 : decode cX6_addFourBytes 21 = .ok (.invokevirtual 34, 3) := by decide +kernel
theorem dX6_addFourBytes_24 : decode cX6_addFourBytes 24 = .ok (.aload_n 0, 1) := by decide +kernel
theorem dX6_addFourBytes_25 : decode cX6_addFourBytes 25 = .ok (.iload_n 1, 1) := by decide +kernel
theorem dX6_addFourBytes_26 : decode cX6_addFourBytes 26 = .ok (.invokevirtual 34, 3) := by decide +kernel
theorem dX6_addFourBytes_29 : decode cX6_addFourBytes 29 = .ok (.return_, 1) := by decide +kernel
abbrev mX6_cutTo : zM := (yX6_cutTo, cX6_cutTo, 2, none, [])
theorem okX6_cutTo : zMok mX6_cutTo 1 := ⟨by decide, by decide, by decide +kernel⟩
theorem dX6_cutTo_0 : decode cX6_cutTo 0 = .ok (.iload_n 1, 1) := by decide +kernel
theorem dX6_cutTo_1 : decode cX6_cutTo 1 = .ok (.ifCond .lt 16, 3) := by decide +kernel
theorem dX6_cutTo_17 : decode cX6_cutTo 17 = .ok (.return_, 1) := by decide +kernel
theorem dX6_cutTo_4 : decode cX6_cutTo 4 = .ok (.iload_n 1, 1) := by decide +kernel
theorem dX6_cutTo_5 : decode cX6_cutTo 5 = .ok (.aload_n 0, 1) := by decide +kernel
theorem dX6_cutTo_6 : decode cX6_cutTo 6 = .ok (.getfield 15, 3) := by decide +kernel
theorem dX6_cutTo_9 : decode cX6_cutTo 9 = .ok (.if_icmp .gt 8, 3) := by decide +kernel
theorem dX6_cutTo_12 : decode cX6_cutTo 12 = .ok (.aload_n 0, 1) := by decide +kernel
theorem dX6_cutTo_13 : decode cX6_cutTo 13 = .ok (.iload_n 1, 1) := by decide +kernel
theorem dX6_cutTo_14 : decode cX6_cutTo 14 = .ok (.putfield 15, 3) := by decide +kernel
abbrev mX9_append : zM := (yX9_append, cX9_append, 6, (some .int), [])
theorem okX9_append : zMok mX9_append 5 := ⟨by decide, by decide, by decide +kernel⟩
theorem dX9_append_0 : decode cX9_append 0 = .ok (.aload_n 0, 1) := by decide +kernel
theorem dX9_append_1 : decode cX9_append 1 = .ok (.getfield 12, 3) := by decide +kernel
theorem dX9_append_4 : decode cX9_append 4 = .ok (.bipush 20, 2) := by decide +kernel
theorem dX9_append_6 : decode cX9_append 6 = .ok (.invokevirtual 98, 3) := by decide +kernel
theorem cw_RX9_98 : zCwV RX9 98 mX6_hasRoomFor := zall [1015, 1016, 1017, 114, 1018] (by decide +kernel) (by decide +kernel)
theorem dX9_append_9 : decode cX9_append 9 = .ok (.ifCond .ne 13, 3) := by decide +kernel
theorem dX9_append_12 : decode cX9_append 12 = .ok (.new 102, 3) := by decide +kernel
theorem dX9_append_15 : decode cX9_append 15 = .ok (.dup, 1) := by decide +kernel
theorem dX9_append_16 : decode cX9_append 16 = .ok (.ldc 104, 2) := by decide +kernel
theorem dX9_append_18 : decode cX9_append 18 = .ok (.invokespecial 106, 3) := by decide +kernel
theorem dX9_append_21 : decode cX9_append 21 = .ok (.athrow, 1) := by decide +kernel
theorem dX9_append_22 : decode cX9_append 22 = .ok (.aload_n 0, 1) := by decide +kernel
theorem dX9_append_23 : decode cX9_append 23 = .ok (.getfield 12, 3) := by decide +kernel
theorem dX9_append_26 : decode cX9_append 26 = .ok (.iload_n 1, 1) := by decide +kernel
theorem dX9_append_27 : decode cX9_append 27 = .ok (.invokevirtual 108, 3) := by decide +kernel
theorem cw_RX9_108 : zCwV RX9 108 mX6_addFourBytes := zall [1086, 1087, 1088, 114, 1089] (by decide +kernel) (by decide +kernel)
theorem dX9_append_30 : decode cX9_append 30 = .ok (.aload_n 0, 1) := by decide +kernel
theorem dX9_append_31 : decode cX9_append 31 = .ok (.getfield 12, 3) := by decide +kernel
theorem dX9_append_34 : decode cX9_append 34 = .ok (.iload_n 2, 1) := by decide +kernel
theorem dX9_append_35 : decode cX9_append 35 = .ok (.invokevirtual 108, 3) := by decide +kernel
theorem dX9_append_38 : decode cX9_append 38 = .ok (.aload_n 0, 1) := by decide +kernel
theorem dX9_append_39 : decode cX9_append 39 = .ok (.getfield 12, 3) := by decide +kernel
theorem dX9_append_42 : decode cX9_append 42 = .ok (.iload_n 3, 1) := by decide +kernel
theorem dX9_append_43 : decode cX9_append 43 = .ok (.invokevirtual 108, 3) := by decide +kernel
theorem dX9_append_46 : decode cX9_append 46 = .ok (.aload_n 0, 1) := by decide +kernel
theorem dX9_append_47 : decode cX9_append 47 = .ok (.getfield 12, 3) := by decide +kernel
theorem dX9_append_50 : decode cX9_append 50 = .ok (.iload 4, 2) := by decide +kernel
theorem dX9_append_52 : decode cX9_append 52 = .ok (.invokevirtual 108, 3) := by decide +kernel
theorem dX9_append_55 : decode cX9_append 55 = .ok (.aload_n 0, 1) := by decide +kernel
theorem dX9_append_56 : decode cX9_append 56 = .ok (.getfield 12, 3) := by decide +kernel
theorem dX9_append_59 : decode cX9_append 59 = .ok (.iload 5, 2) := by decide +kernel
theorem dX9_append_61 : decode cX9_append 61 = .ok (.invokevirtual 108, 3) := by decide +kernel
theorem dX9_append_64 : decode cX9_append 64 = .ok (.aload_n 0, 1) := by decide +kernel
theorem dX9_append_65 : decode cX9_append 65 = .ok (.getfield 12, 3) := by decide +kernel
theorem dX9_append_68 : decode cX9_append 68 = .ok (.getfield 111, 3) := by decide +kernel
theorem fl_RX9_111 : zFl RX9 111 6 1 := ⟨RX6, TX6, 7, rfl, by decide, zmem1 153 (by decide +kernel) rfl, rfl⟩
theorem dX9_append_71 : decode cX9_append 71 = .ok (.ireturn, 1) := by decide +kernel
abbrev mX9_truncate : zM := (yX9_truncate, cX9_truncate, 2, (some .int), [])
theorem okX9_truncate : zMok mX9_truncate 1 := ⟨by decide, by decide, by decide +kernel⟩
theorem dX9_truncate_0 : decode cX9_truncate 0 = .ok (.iload_n 1, 1) := by decide +kernel
theorem dX9_truncate_1 : decode cX9_truncate 1 = .ok (.ifCond .lt 14, 3) := by decide +kernel
theorem dX9_truncate_15 : decode cX9_truncate 15 = .ok (.new 115, 3) := by decide +kernel
theorem dX9_truncate_18 : decode cX9_truncate 18 = .ok (.dup, 1) := by decide +kernel
theorem dX9_truncate_19 : decode cX9_truncate 19 = .ok (.ldc 117, 2) := by decide +kernel
theorem dX9_truncate_21 : decode cX9_truncate 21 = .ok (.invokespecial 119, 3) := by decide +kernel
theorem dX9_truncate_24 : decode cX9_truncate 24 = .ok (.athrow, 1) := by decide +kernel
theorem dX9_truncate_4 : decode cX9_truncate 4 = .ok (.iload_n 1, 1) := by decide +kernel
theorem dX9_truncate_5 : decode cX9_truncate 5 = .ok (.aload_n 0, 1) := by decide +kernel
theorem dX9_truncate_6 : decode cX9_truncate 6 = .ok (.getfield 12, 3) := by decide +kernel
theorem dX9_truncate_9 : decode cX9_truncate 9 = .ok (.getfield 111, 3) := by decide +kernel
theorem dX9_truncate_12 : decode cX9_truncate 12 = .ok (.if_icmp .le 13, 3) := by decide +kernel
theorem dX9_truncate_25 : decode cX9_truncate 25 = .ok (.aload_n 0, 1) := by decide +kernel
theorem dX9_truncate_26 : decode cX9_truncate 26 = .ok (.getfield 12, 3) := by decide +kernel
theorem dX9_truncate_29 : decode cX9_truncate 29 = .ok (.iload_n 1, 1) := by decide +kernel
theorem dX9_truncate_30 : decode cX9_truncate 30 = .ok (.invokevirtual 87, 3) := by decide +kernel
theorem cw_RX9_87 : zCwV RX9 87 mX6_cutTo := zall [642, 643, 644, 114, 645] (by decide +kernel) (by decide +kernel)
theorem dX9_truncate_33 : decode cX9_truncate 33 = .ok (.aload_n 0, 1) := by decide +kernel
theorem dX9_truncate_34 : decode cX9_truncate 34 = .ok (.getfield 12, 3) := by decide +kernel
theorem dX9_truncate_37 : decode cX9_truncate 37 = .ok (.getfield 111, 3) := by decide +kernel
theorem dX9_truncate_40 : decode cX9_truncate 40 = .ok (.ireturn, 1) := by decide +kernel
abbrev mX10_four : zM := (yX10_four, cX10_four, 3, none, [])
theorem okX10_four : zMok mX10_four 1 := ⟨by decide, by decide, by decide +kernel⟩
theorem dX10_four_0 : decode cX10_four 0 = .ok (.bipush 24, 2) := by decide +kernel
theorem dX10_four_2 : decode cX10_four 2 = .ok (.istore_n 2, 1) := by decide +kernel
theorem dX10_four_3 : decode cX10_four 3 = .ok (.iload_n 2, 1) := by decide +kernel
theorem dX10_four_4 : decode cX10_four 4 = .ok (.ifCond .lt 35, 3) := by decide +kernel
theorem dX10_four_39 : decode cX10_four 39 = .ok (.return_, 1) := by decide +kernel
theorem dX10_four_7 : decode cX10_four 7 = .ok (.aload_n 0, 1) := by decide +kernel
theorem dX10_four_8 : decode cX10_four 8 = .ok (.getfield 31, 3) := by decide +kernel
theorem fl_RX10_31 : zFl RX10 31 10 15 := ⟨RX10, TX10, 28, rfl, by decide, zmem1 1668 (by decide +kernel) rfl, rfl⟩
theorem dX10_four_11 : decode cX10_four 11 = .ok (.aload_n 0, 1) := by decide +kernel
theorem dX10_four_12 : decode cX10_four 12 = .ok (.getfield 61, 3) := by decide +kernel
theorem fl_RX10_61 : zFl RX10 61 10 16 := ⟨RX10, TX10, 28, rfl, by decide, zmem1 1669 (by decide +kernel) rfl, rfl⟩
theorem dX10_four_15 : decode cX10_four 15 = .ok (.iload_n 1, 1) := by decide +kernel
theorem dX10_four_16 : decode cX10_four 16 = .ok (.iload_n 2, 1) := by decide +kernel
theorem dX10_four_17 : decode cX10_four 17 = .ok (.ishr, 1) := by decide +kernel
theorem dX10_four_18 : decode cX10_four 18 = .ok (.sipush 255, 3) := by decide +kernel
theorem dX10_four_21 : decode cX10_four 21 = .ok (.iand, 1) := by decide +kernel
theorem dX10_four_22 : decode cX10_four 22 = .ok (.iastore, 1) := by decide +kernel
theorem dX10_four_23 : decode cX10_four 23 = .ok (.aload_n 0, 1) := by decide +kernel
theorem dX10_four_24 : decode cX10_four 24 = .ok (.dup, 1) := by decide +kernel
theorem dX10_four_25 : decode cX10_four 25 = .ok (.getfield 61, 3) := by decide +kernel
theorem dX10_four_28 : decode cX10_four 28 = .ok (.iconst 1, 1) := by decide +kernel
theorem dX10_four_29 : decode cX10_four 29 = .ok (.iadd, 1) := by decide +kernel
theorem dX10_four_30 : decode cX10_four 30 = .ok (.putfield 61, 3) := by decide +kernel
theorem fp_10_16 : zFi 10 16 "I" := ⟨RX10, TX10, 28, rfl, rfl, rfl⟩
theorem dX10_four_33 : decode cX10_four 33 = .ok (.iinc 2 (-8), 3) := by decide +kernel
theorem dX10_four_36 : decode cX10_four 36 = .ok (.goto (-33), 3) := by decide +kernel
abbrev mX10_append : zM := (yX10_append, cX10_append, 6, (some .int), [])
theorem okX10_append : zMok mX10_append 5 := ⟨by decide, by decide, by decide +kernel⟩
theorem dX10_append_0 : decode cX10_append 0 = .ok (.aload_n 0, 1) := by decide +kernel
theorem dX10_append_1 : decode cX10_append 1 = .ok (.aload_n 0, 1) := by decide +kernel
theorem dX10_append_2 : decode cX10_append 2 = .ok (.getfield 61, 3) := by decide +kernel
theorem dX10_append_5 : decode cX10_append 5 = .ok (.bipush 20, 2) := by decide +kernel
theorem dX10_append_7 : decode cX10_append 7 = .ok (.iadd, 1) := by decide +kernel
theorem dX10_append_8 : decode cX10_append 8 = .ok (.sipush 1400, 3) := by decide +kernel
theorem dX10_append_11 : decode cX10_append 11 = .ok (.if_icmp .gt 7, 3) := by decide +kernel
theorem dX10_append_18 : decode cX10_append 18 = .ok (.iconst 0, 1) := by decide +kernel
theorem dX10_append_19 : decode cX10_append 19 = .ok (.invokevirtual 220, 3) := by decide +kernel
theorem dX10_append_22 : decode cX10_append 22 = .ok (.ifCond .ne 5, 3) := by decide +kernel
theorem dX10_append_25 : decode cX10_append 25 = .ok (.iconst 0, 1) := by decide +kernel
theorem dX10_append_26 : decode cX10_append 26 = .ok (.ireturn, 1) := by decide +kernel
theorem dX10_append_14 : decode cX10_append 14 = .ok (.iconst 1, 1) := by decide +kernel
theorem dX10_append_15 : decode cX10_append 15 = .ok (.goto 4, 3) := by decide +kernel
theorem dX10_append_27 : decode cX10_append 27 = .ok (.aload_n 0, 1) := by decide +kernel
theorem dX10_append_28 : decode cX10_append 28 = .ok (.iload_n 1, 1) := by decide +kernel
theorem dX10_append_29 : decode cX10_append 29 = .ok (.invokevirtual 224, 3) := by decide +kernel
theorem cw_RX10_224 : zCwV RX10 224 mX10_four := zall [1746, 1748, 52, 128, 1749] (by decide +kernel) (by decide +kernel)
theorem dX10_append_32 : decode cX10_append 32 = .ok (.aload_n 0, 1) := by decide +kernel
theorem dX10_append_33 : decode cX10_append 33 = .ok (.iload_n 2, 1) := by decide +kernel
theorem dX10_append_34 : decode cX10_append 34 = .ok (.invokevirtual 224, 3) := by decide +kernel
theorem dX10_append_37 : decode cX10_append 37 = .ok (.aload_n 0, 1) := by decide +kernel
theorem dX10_append_38 : decode cX10_append 38 = .ok (.iload_n 3, 1) := by decide +kernel
theorem dX10_append_39 : decode cX10_append 39 = .ok (.invokevirtual 224, 3) := by decide +kernel
theorem dX10_append_42 : decode cX10_append 42 = .ok (.aload_n 0, 1) := by decide +kernel
theorem dX10_append_43 : decode cX10_append 43 = .ok (.iload 4, 2) := by decide +kernel
theorem dX10_append_45 : decode cX10_append 45 = .ok (.invokevirtual 224, 3) := by decide +kernel
theorem dX10_append_48 : decode cX10_append 48 = .ok (.aload_n 0, 1) := by decide +kernel
theorem dX10_append_49 : decode cX10_append 49 = .ok (.iload 5, 2) := by decide +kernel
theorem dX10_append_51 : decode cX10_append 51 = .ok (.invokevirtual 224, 3) := by decide +kernel
theorem dX10_append_54 : decode cX10_append 54 = .ok (.aload_n 0, 1) := by decide +kernel
theorem dX10_append_55 : decode cX10_append 55 = .ok (.getfield 61, 3) := by decide +kernel
theorem dX10_append_58 : decode cX10_append 58 = .ok (.ireturn, 1) := by decide +kernel
abbrev mX10_truncate : zM := (yX10_truncate, cX10_truncate, 2, (some .int), [])
theorem okX10_truncate : zMok mX10_truncate 1 := ⟨by decide, by decide, by decide +kernel⟩
theorem dX10_truncate_0 : decode cX10_truncate 0 = .ok (.aload_n 0, 1) := by decide +kernel
theorem dX10_truncate_1 : decode cX10_truncate 1 = .ok (.iload_n 1, 1) := by decide +kernel
theorem dX10_truncate_2 : decode cX10_truncate 2 = .ok (.i2l, 1) := by decide +kernel
theorem dX10_truncate_3 : decode cX10_truncate 3 = .ok (.lconst 0, 1) := by decide +kernel
theorem dX10_truncate_4 : decode cX10_truncate 4 = .ok (.aload_n 0, 1) := by decide +kernel
theorem dX10_truncate_5 : decode cX10_truncate 5 = .ok (.getfield 61, 3) := by decide +kernel
theorem dX10_truncate_8 : decode cX10_truncate 8 = .ok (.i2l, 1) := by decide +kernel
theorem dX10_truncate_9 : decode cX10_truncate 9 = .ok (.invokestatic 74, 3) := by decide +kernel
theorem dX10_truncate_12 : decode cX10_truncate 12 = .ok (.invokevirtual 220, 3) := by decide +kernel
theorem dX10_truncate_15 : decode cX10_truncate 15 = .ok (.ifCond .ne 5, 3) := by decide +kernel
theorem dX10_truncate_18 : decode cX10_truncate 18 = .ok (.iconst 0, 1) := by decide +kernel
theorem dX10_truncate_19 : decode cX10_truncate 19 = .ok (.ireturn, 1) := by decide +kernel
theorem dX10_truncate_20 : decode cX10_truncate 20 = .ok (.aload_n 0, 1) := by decide +kernel
theorem dX10_truncate_21 : decode cX10_truncate 21 = .ok (.iload_n 1, 1) := by decide +kernel
theorem dX10_truncate_22 : decode cX10_truncate 22 = .ok (.putfield 61, 3) := by decide +kernel
theorem dX10_truncate_25 : decode cX10_truncate 25 = .ok (.iload_n 1, 1) := by decide +kernel
theorem dX10_truncate_26 : decode cX10_truncate 26 = .ok (.ireturn, 1) := by decide +kernel
abbrev mX9_outputByte : zM := (yX9_outputByte, cX9_outputByte, 2, (some .int), [])
theorem okX9_outputByte : zMok mX9_outputByte 1 := ⟨by decide, by decide, by decide +kernel⟩
theorem dX9_outputByte_0 : decode cX9_outputByte 0 = .ok (.aload_n 0, 1) := by decide +kernel
theorem dX9_outputByte_1 : decode cX9_outputByte 1 = .ok (.getfield 61, 3) := by decide +kernel
theorem fl_RX9_61 : zFl RX9 61 9 8 := ⟨RX9, TX9, 9, rfl, by decide, zmem1 670 (by decide +kernel) rfl, rfl⟩
theorem dX9_outputByte_4 : decode cX9_outputByte 4 = .ok (.iload_n 1, 1) := by decide +kernel
theorem dX9_outputByte_5 : decode cX9_outputByte 5 = .ok (.invokevirtual 348, 3) := by decide +kernel
theorem cw_RX9_348 : zCwV RX9 348 mX8_byteAt := zall [1003, 1004, 1005, 122, 1006] (by decide +kernel) (by decide +kernel)
theorem dX9_outputByte_8 : decode cX9_outputByte 8 = .ok (.ireturn, 1) := by decide +kernel
abbrev mX10_writes : zM := (yX10_writes, cX10_writes, 2, none, [])
theorem okX10_writes : zMok mX10_writes 1 := ⟨by decide, by decide, by decide +kernel⟩
theorem dX10_writes_0 : decode cX10_writes 0 = .ok (.aload_n 0, 1) := by decide +kernel
theorem dX10_writes_1 : decode cX10_writes 1 = .ok (.getfield 41, 3) := by decide +kernel
theorem fl_RX10_41 : zFl RX10 41 10 26 := ⟨RX10, TX10, 28, rfl, by decide, zmem1 1679 (by decide +kernel) rfl, rfl⟩
theorem dX10_writes_4 : decode cX10_writes 4 = .ok (.aload_n 0, 1) := by decide +kernel
theorem dX10_writes_5 : decode cX10_writes 5 = .ok (.getfield 470, 3) := by decide +kernel
theorem fl_RX10_470 : zFl RX10 470 10 27 := ⟨RX10, TX10, 28, rfl, by decide, zmem1 1680 (by decide +kernel) rfl, rfl⟩
theorem dX10_writes_8 : decode cX10_writes 8 = .ok (.iload_n 1, 1) := by decide +kernel
theorem dX10_writes_9 : decode cX10_writes 9 = .ok (.iastore, 1) := by decide +kernel
theorem dX10_writes_10 : decode cX10_writes 10 = .ok (.aload_n 0, 1) := by decide +kernel
theorem dX10_writes_11 : decode cX10_writes 11 = .ok (.dup, 1) := by decide +kernel
theorem dX10_writes_12 : decode cX10_writes 12 = .ok (.getfield 470, 3) := by decide +kernel
theorem dX10_writes_15 : decode cX10_writes 15 = .ok (.iconst 1, 1) := by decide +kernel
theorem dX10_writes_16 : decode cX10_writes 16 = .ok (.iadd, 1) := by decide +kernel
theorem dX10_writes_17 : decode cX10_writes 17 = .ok (.putfield 470, 3) := by decide +kernel
theorem fp_10_27 : zFi 10 27 "I" := ⟨RX10, TX10, 28, rfl, rfl, rfl⟩
theorem dX10_writes_20 : decode cX10_writes 20 = .ok (.return_, 1) := by decide +kernel
abbrev mX10_writesNumber : zM := (yX10_writesNumber, cX10_writesNumber, 3, none, [])
theorem okX10_writesNumber : zMok mX10_writesNumber 1 := ⟨by decide, by decide, by decide +kernel⟩
theorem dX10_writesNumber_0 : decode cX10_writesNumber 0 = .ok (.iconst 1, 1) := by decide +kernel
theorem dX10_writesNumber_1 : decode cX10_writesNumber 1 = .ok (.istore_n 2, 1) := by decide +kernel
theorem dX10_writesNumber_2 : decode cX10_writesNumber 2 = .ok (.iload_n 1, 1) := by decide +kernel
theorem dX10_writesNumber_3 : decode cX10_writesNumber 3 = .ok (.iload_n 2, 1) := by decide +kernel
theorem dX10_writesNumber_4 : decode cX10_writesNumber 4 = .ok (.idiv, 1) := by decide +kernel
theorem dX10_writesNumber_5 : decode cX10_writesNumber 5 = .ok (.bipush 9, 2) := by decide +kernel
theorem dX10_writesNumber_7 : decode cX10_writesNumber 7 = .ok (.if_icmp .le 11, 3) := by decide +kernel
theorem dX10_writesNumber_18 : decode cX10_writesNumber 18 = .ok (.iload_n 2, 1) := by decide +kernel
theorem dX10_writesNumber_19 : decode cX10_writesNumber 19 = .ok (.ifCond .le 24, 3) := by decide +kernel
theorem dX10_writesNumber_43 : decode cX10_writesNumber 43 = .ok (.return_, 1) := by decide +kernel
theorem dX10_writesNumber_22 : decode cX10_writesNumber 22 = .ok (.aload_n 0, 1) := by decide +kernel
theorem dX10_writesNumber_23 : decode cX10_writesNumber 23 = .ok (.bipush 48, 2) := by decide +kernel
theorem dX10_writesNumber_25 : decode cX10_writesNumber 25 = .ok (.iload_n 1, 1) := by decide +kernel
theorem dX10_writesNumber_26 : decode cX10_writesNumber 26 = .ok (.iload_n 2, 1) := by decide +kernel
theorem dX10_writesNumber_27 : decode cX10_writesNumber 27 = .ok (.idiv, 1) := by decide +kernel
theorem dX10_writesNumber_28 : decode cX10_writesNumber 28 = .ok (.bipush 10, 2) := by decide +kernel
theorem dX10_writesNumber_30 : decode cX10_writesNumber 30 = .ok (.irem, 1) := by decide +kernel
theorem dX10_writesNumber_31 : decode cX10_writesNumber 31 = .ok (.iadd, 1) := by decide +kernel
theorem dX10_writesNumber_32 : decode cX10_writesNumber 32 = .ok (.invokevirtual 473, 3) := by decide +kernel
theorem cw_RX10_473 : zCwV RX10 473 mX10_writes := zall [2245, 2247, 110, 128, 2248] (by decide +kernel) (by decide +kernel)
theorem dX10_writesNumber_35 : decode cX10_writesNumber 35 = .ok (.iload_n 2, 1) := by decide +kernel
theorem dX10_writesNumber_36 : decode cX10_writesNumber 36 = .ok (.bipush 10, 2) := by decide +kernel
theorem dX10_writesNumber_38 : decode cX10_writesNumber 38 = .ok (.idiv, 1) := by decide +kernel
theorem dX10_writesNumber_39 : decode cX10_writesNumber 39 = .ok (.istore_n 2, 1) := by decide +kernel
theorem dX10_writesNumber_40 : decode cX10_writesNumber 40 = .ok (.goto (-22), 3) := by decide +kernel
theorem dX10_writesNumber_10 : decode cX10_writesNumber 10 = .ok (.iload_n 2, 1) := by decide +kernel
theorem dX10_writesNumber_11 : decode cX10_writesNumber 11 = .ok (.bipush 10, 2) := by decide +kernel
theorem dX10_writesNumber_13 : decode cX10_writesNumber 13 = .ok (.imul, 1) := by decide +kernel
theorem dX10_writesNumber_14 : decode cX10_writesNumber 14 = .ok (.istore_n 2, 1) := by decide +kernel
theorem dX10_writesNumber_15 : decode cX10_writesNumber 15 = .ok (.goto (-13), 3) := by decide +kernel
abbrev mX10_outputByte : zM := (yX10_outputByte, cX10_outputByte, 2, (some .int), [])
theorem okX10_outputByte : zMok mX10_outputByte 1 := ⟨by decide, by decide, by decide +kernel⟩
theorem dX10_outputByte_0 : decode cX10_outputByte 0 = .ok (.aload_n 0, 1) := by decide +kernel
theorem dX10_outputByte_1 : decode cX10_outputByte 1 = .ok (.iconst 0, 1) := by decide +kernel
theorem dX10_outputByte_2 : decode cX10_outputByte 2 = .ok (.putfield 67, 3) := by decide +kernel
theorem dX10_outputByte_5 : decode cX10_outputByte 5 = .ok (.iload_n 1, 1) := by decide +kernel
theorem dX10_outputByte_6 : decode cX10_outputByte 6 = .ok (.i2l, 1) := by decide +kernel
theorem dX10_outputByte_7 : decode cX10_outputByte 7 = .ok (.lconst 0, 1) := by decide +kernel
theorem dX10_outputByte_8 : decode cX10_outputByte 8 = .ok (.aload_n 0, 1) := by decide +kernel
theorem dX10_outputByte_9 : decode cX10_outputByte 9 = .ok (.getfield 470, 3) := by decide +kernel
theorem dX10_outputByte_12 : decode cX10_outputByte 12 = .ok (.iconst 1, 1) := by decide +kernel
theorem dX10_outputByte_13 : decode cX10_outputByte 13 = .ok (.isub, 1) := by decide +kernel
theorem dX10_outputByte_14 : decode cX10_outputByte 14 = .ok (.i2l, 1) := by decide +kernel
theorem dX10_outputByte_15 : decode cX10_outputByte 15 = .ok (.invokestatic 74, 3) := by decide +kernel
theorem dX10_outputByte_18 : decode cX10_outputByte 18 = .ok (.ifCond .eq 12, 3) := by decide +kernel
theorem dX10_outputByte_30 : decode cX10_outputByte 30 = .ok (.iconst (-1), 1) := by decide +kernel
theorem dX10_outputByte_31 : decode cX10_outputByte 31 = .ok (.ireturn, 1) := by decide +kernel
theorem dX10_outputByte_21 : decode cX10_outputByte 21 = .ok (.aload_n 0, 1) := by decide +kernel
theorem dX10_outputByte_22 : decode cX10_outputByte 22 = .ok (.getfield 41, 3) := by decide +kernel
theorem dX10_outputByte_25 : decode cX10_outputByte 25 = .ok (.iload_n 1, 1) := by decide +kernel
theorem dX10_outputByte_26 : decode cX10_outputByte 26 = .ok (.iaload, 1) := by decide +kernel
theorem dX10_outputByte_27 : decode cX10_outputByte 27 = .ok (.goto 4, 3) := by decide +kernel
abbrev mX10_formatVerdict : zM := (yX10_formatVerdict, cX10_formatVerdict, 4, (some .int), [])
theorem okX10_formatVerdict : zMok mX10_formatVerdict 0 := ⟨by decide, by decide, by decide +kernel⟩
theorem dX10_formatVerdict_0 : decode cX10_formatVerdict 0 = .ok (.aload_n 0, 1) := by decide +kernel
theorem dX10_formatVerdict_1 : decode cX10_formatVerdict 1 = .ok (.iconst 0, 1) := by decide +kernel
theorem dX10_formatVerdict_2 : decode cX10_formatVerdict 2 = .ok (.putfield 67, 3) := by decide +kernel
theorem dX10_formatVerdict_5 : decode cX10_formatVerdict 5 = .ok (.aload_n 0, 1) := by decide +kernel
theorem dX10_formatVerdict_6 : decode cX10_formatVerdict 6 = .ok (.iconst 0, 1) := by decide +kernel
theorem dX10_formatVerdict_7 : decode cX10_formatVerdict 7 = .ok (.putfield 470, 3) := by decide +kernel
theorem dX10_formatVerdict_10 : decode cX10_formatVerdict 10 = .ok (.aload_n 0, 1) := by decide +kernel
theorem dX10_formatVerdict_11 : decode cX10_formatVerdict 11 = .ok (.invokevirtual 166, 3) := by decide +kernel
theorem dX10_formatVerdict_14 : decode cX10_formatVerdict 14 = .ok (.istore_n 1, 1) := by decide +kernel
theorem dX10_formatVerdict_15 : decode cX10_formatVerdict 15 = .ok (.iconst 0, 1) := by decide +kernel
theorem dX10_formatVerdict_16 : decode cX10_formatVerdict 16 = .ok (.istore_n 2, 1) := by decide +kernel
theorem dX10_formatVerdict_17 : decode cX10_formatVerdict 17 = .ok (.iload_n 2, 1) := by decide +kernel
theorem dX10_formatVerdict_18 : decode cX10_formatVerdict 18 = .ok (.aload_n 0, 1) := by decide +kernel
theorem dX10_formatVerdict_19 : decode cX10_formatVerdict 19 = .ok (.aload_n 0, 1) := by decide +kernel
theorem dX10_formatVerdict_20 : decode cX10_formatVerdict 20 = .ok (.getfield 163, 3) := by decide +kernel
theorem dX10_formatVerdict_23 : decode cX10_formatVerdict 23 = .ok (.iconst 0, 1) := by decide +kernel
theorem dX10_formatVerdict_24 : decode cX10_formatVerdict 24 = .ok (.invokevirtual 82, 3) := by decide +kernel
theorem dX10_formatVerdict_27 : decode cX10_formatVerdict 27 = .ok (.if_icmp .ge 24, 3) := by decide +kernel
theorem dX10_formatVerdict_51 : decode cX10_formatVerdict 51 = .ok (.aload_n 0, 1) := by decide +kernel
theorem dX10_formatVerdict_52 : decode cX10_formatVerdict 52 = .ok (.bipush 32, 2) := by decide +kernel
theorem dX10_formatVerdict_54 : decode cX10_formatVerdict 54 = .ok (.invokevirtual 473, 3) := by decide +kernel
theorem dX10_formatVerdict_57 : decode cX10_formatVerdict 57 = .ok (.aload_n 0, 1) := by decide +kernel
theorem dX10_formatVerdict_58 : decode cX10_formatVerdict 58 = .ok (.iload_n 1, 1) := by decide +kernel
theorem dX10_formatVerdict_59 : decode cX10_formatVerdict 59 = .ok (.invokevirtual 476, 3) := by decide +kernel
theorem cw_RX10_476 : zCwV RX10 476 mX10_writesNumber := zall [2249, 2251, 111, 128, 2252] (by decide +kernel) (by decide +kernel)
theorem dX10_formatVerdict_62 : decode cX10_formatVerdict 62 = .ok (.iconst 0, 1) := by decide +kernel
theorem dX10_formatVerdict_63 : decode cX10_formatVerdict 63 = .ok (.istore_n 2, 1) := by decide +kernel
theorem dX10_formatVerdict_64 : decode cX10_formatVerdict 64 = .ok (.iload_n 2, 1) := by decide +kernel
theorem dX10_formatVerdict_65 : decode cX10_formatVerdict 65 = .ok (.aload_n 0, 1) := by decide +kernel
theorem dX10_formatVerdict_66 : decode cX10_formatVerdict 66 = .ok (.getfield 7, 3) := by decide +kernel
theorem dX10_formatVerdict_69 : decode cX10_formatVerdict 69 = .ok (.iconst 3, 1) := by decide +kernel
theorem dX10_formatVerdict_70 : decode cX10_formatVerdict 70 = .ok (.iaload, 1) := by decide +kernel
theorem dX10_formatVerdict_71 : decode cX10_formatVerdict 71 = .ok (.if_icmp .ge 52, 3) := by decide +kernel
theorem dX10_formatVerdict_123 : decode cX10_formatVerdict 123 = .ok (.aload_n 0, 1) := by decide +kernel
theorem dX10_formatVerdict_124 : decode cX10_formatVerdict 124 = .ok (.getfield 470, 3) := by decide +kernel
theorem dX10_formatVerdict_127 : decode cX10_formatVerdict 127 = .ok (.ireturn, 1) := by decide +kernel
theorem dX10_formatVerdict_74 : decode cX10_formatVerdict 74 = .ok (.aload_n 0, 1) := by decide +kernel
theorem dX10_formatVerdict_75 : decode cX10_formatVerdict 75 = .ok (.iload_n 2, 1) := by decide +kernel
theorem dX10_formatVerdict_76 : decode cX10_formatVerdict 76 = .ok (.invokevirtual 413, 3) := by decide +kernel
theorem dX10_formatVerdict_79 : decode cX10_formatVerdict 79 = .ok (.istore_n 3, 1) := by decide +kernel
theorem dX10_formatVerdict_80 : decode cX10_formatVerdict 80 = .ok (.aload_n 0, 1) := by decide +kernel
theorem dX10_formatVerdict_81 : decode cX10_formatVerdict 81 = .ok (.iload_n 3, 1) := by decide +kernel
theorem dX10_formatVerdict_82 : decode cX10_formatVerdict 82 = .ok (.invokevirtual 121, 3) := by decide +kernel
theorem dX10_formatVerdict_85 : decode cX10_formatVerdict 85 = .ok (.ifCond .eq 32, 3) := by decide +kernel
theorem dX10_formatVerdict_117 : decode cX10_formatVerdict 117 = .ok (.iinc 2 1, 3) := by decide +kernel
theorem dX10_formatVerdict_120 : decode cX10_formatVerdict 120 = .ok (.goto (-56), 3) := by decide +kernel
theorem dX10_formatVerdict_88 : decode cX10_formatVerdict 88 = .ok (.aload_n 0, 1) := by decide +kernel
theorem dX10_formatVerdict_89 : decode cX10_formatVerdict 89 = .ok (.aload_n 0, 1) := by decide +kernel
theorem dX10_formatVerdict_90 : decode cX10_formatVerdict 90 = .ok (.iload_n 3, 1) := by decide +kernel
theorem dX10_formatVerdict_91 : decode cX10_formatVerdict 91 = .ok (.aload_n 0, 1) := by decide +kernel
theorem dX10_formatVerdict_92 : decode cX10_formatVerdict 92 = .ok (.getfield 163, 3) := by decide +kernel
theorem dX10_formatVerdict_95 : decode cX10_formatVerdict 95 = .ok (.iload_n 1, 1) := by decide +kernel
theorem dX10_formatVerdict_96 : decode cX10_formatVerdict 96 = .ok (.invokevirtual 125, 3) := by decide +kernel
theorem dX10_formatVerdict_99 : decode cX10_formatVerdict 99 = .ok (.ifCond .eq 8, 3) := by decide +kernel
theorem dX10_formatVerdict_107 : decode cX10_formatVerdict 107 = .ok (.bipush 45, 2) := by decide +kernel
theorem dX10_formatVerdict_109 : decode cX10_formatVerdict 109 = .ok (.invokevirtual 473, 3) := by decide +kernel
theorem dX10_formatVerdict_112 : decode cX10_formatVerdict 112 = .ok (.aload_n 0, 1) := by decide +kernel
theorem dX10_formatVerdict_113 : decode cX10_formatVerdict 113 = .ok (.iload_n 3, 1) := by decide +kernel
theorem dX10_formatVerdict_114 : decode cX10_formatVerdict 114 = .ok (.invokevirtual 476, 3) := by decide +kernel
theorem dX10_formatVerdict_102 : decode cX10_formatVerdict 102 = .ok (.bipush 43, 2) := by decide +kernel
theorem dX10_formatVerdict_104 : decode cX10_formatVerdict 104 = .ok (.goto 5, 3) := by decide +kernel
theorem dX10_formatVerdict_30 : decode cX10_formatVerdict 30 = .ok (.aload_n 0, 1) := by decide +kernel
theorem dX10_formatVerdict_31 : decode cX10_formatVerdict 31 = .ok (.aload_n 0, 1) := by decide +kernel
theorem dX10_formatVerdict_32 : decode cX10_formatVerdict 32 = .ok (.aload_n 0, 1) := by decide +kernel
theorem dX10_formatVerdict_33 : decode cX10_formatVerdict 33 = .ok (.getfield 163, 3) := by decide +kernel
theorem dX10_formatVerdict_36 : decode cX10_formatVerdict 36 = .ok (.iconst 1, 1) := by decide +kernel
theorem dX10_formatVerdict_37 : decode cX10_formatVerdict 37 = .ok (.iload_n 2, 1) := by decide +kernel
theorem dX10_formatVerdict_38 : decode cX10_formatVerdict 38 = .ok (.iadd, 1) := by decide +kernel
theorem dX10_formatVerdict_39 : decode cX10_formatVerdict 39 = .ok (.invokevirtual 82, 3) := by decide +kernel
theorem dX10_formatVerdict_42 : decode cX10_formatVerdict 42 = .ok (.invokevirtual 473, 3) := by decide +kernel
theorem dX10_formatVerdict_45 : decode cX10_formatVerdict 45 = .ok (.iinc 2 1, 3) := by decide +kernel
theorem dX10_formatVerdict_48 : decode cX10_formatVerdict 48 = .ok (.goto (-31), 3) := by decide +kernel
abbrev mX9_setAsideUnexplained : zM := (yX9_setAsideUnexplained, cX9_setAsideUnexplained, 3, (some .int), [])
theorem okX9_setAsideUnexplained : zMok mX9_setAsideUnexplained 0 := ⟨by decide, by decide, by decide +kernel⟩
theorem dX9_setAsideUnexplained_0 : decode cX9_setAsideUnexplained 0 = .ok (.aload_n 0, 1) := by decide +kernel
theorem dX9_setAsideUnexplained_1 : decode cX9_setAsideUnexplained 1 = .ok (.invokevirtual 240, 3) := by decide +kernel
theorem dX9_setAsideUnexplained_4 : decode cX9_setAsideUnexplained 4 = .ok (.aload_n 0, 1) := by decide +kernel
theorem dX9_setAsideUnexplained_5 : decode cX9_setAsideUnexplained 5 = .ok (.getfield 47, 3) := by decide +kernel
theorem dX9_setAsideUnexplained_8 : decode cX9_setAsideUnexplained 8 = .ok (.aload_n 0, 1) := by decide +kernel
theorem dX9_setAsideUnexplained_9 : decode cX9_setAsideUnexplained 9 = .ok (.getfield 33, 3) := by decide +kernel
theorem dX9_setAsideUnexplained_12 : decode cX9_setAsideUnexplained 12 = .ok (.invokevirtual 143, 3) := by decide +kernel
theorem dX9_setAsideUnexplained_15 : decode cX9_setAsideUnexplained 15 = .ok (.iconst 0, 1) := by decide +kernel
theorem dX9_setAsideUnexplained_16 : decode cX9_setAsideUnexplained 16 = .ok (.istore_n 1, 1) := by decide +kernel
theorem dX9_setAsideUnexplained_17 : decode cX9_setAsideUnexplained 17 = .ok (.iconst 0, 1) := by decide +kernel
theorem dX9_setAsideUnexplained_18 : decode cX9_setAsideUnexplained 18 = .ok (.istore_n 2, 1) := by decide +kernel
theorem dX9_setAsideUnexplained_19 : decode cX9_setAsideUnexplained 19 = .ok (.iload_n 2, 1) := by decide +kernel
theorem dX9_setAsideUnexplained_20 : decode cX9_setAsideUnexplained 20 = .ok (.aload_n 0, 1) := by decide +kernel
theorem dX9_setAsideUnexplained_21 : decode cX9_setAsideUnexplained 21 = .ok (.getfield 33, 3) := by decide +kernel
theorem dX9_setAsideUnexplained_24 : decode cX9_setAsideUnexplained 24 = .ok (.getfield 125, 3) := by decide +kernel
theorem dX9_setAsideUnexplained_27 : decode cX9_setAsideUnexplained 27 = .ok (.getfield 129, 3) := by decide +kernel
theorem dX9_setAsideUnexplained_30 : decode cX9_setAsideUnexplained 30 = .ok (.if_icmp .ge 36, 3) := by decide +kernel
theorem dX9_setAsideUnexplained_66 : decode cX9_setAsideUnexplained 66 = .ok (.aload_n 0, 1) := by decide +kernel
theorem dX9_setAsideUnexplained_67 : decode cX9_setAsideUnexplained 67 = .ok (.getfield 47, 3) := by decide +kernel
theorem dX9_setAsideUnexplained_70 : decode cX9_setAsideUnexplained 70 = .ok (.invokevirtual 151, 3) := by decide +kernel
theorem dX9_setAsideUnexplained_73 : decode cX9_setAsideUnexplained 73 = .ok (.iload_n 1, 1) := by decide +kernel
theorem dX9_setAsideUnexplained_74 : decode cX9_setAsideUnexplained 74 = .ok (.ireturn, 1) := by decide +kernel
theorem dX9_setAsideUnexplained_33 : decode cX9_setAsideUnexplained 33 = .ok (.aload_n 0, 1) := by decide +kernel
theorem dX9_setAsideUnexplained_34 : decode cX9_setAsideUnexplained 34 = .ok (.getfield 54, 3) := by decide +kernel
theorem dX9_setAsideUnexplained_37 : decode cX9_setAsideUnexplained 37 = .ok (.aload_n 0, 1) := by decide +kernel
theorem dX9_setAsideUnexplained_38 : decode cX9_setAsideUnexplained 38 = .ok (.getfield 33, 3) := by decide +kernel
theorem dX9_setAsideUnexplained_41 : decode cX9_setAsideUnexplained 41 = .ok (.iload_n 2, 1) := by decide +kernel
theorem dX9_setAsideUnexplained_42 : decode cX9_setAsideUnexplained 42 = .ok (.invokevirtual 267, 3) := by decide +kernel
theorem dX9_setAsideUnexplained_45 : decode cX9_setAsideUnexplained 45 = .ok (.ifCond .eq 15, 3) := by decide +kernel
theorem dX9_setAsideUnexplained_60 : decode cX9_setAsideUnexplained 60 = .ok (.iinc 2 1, 3) := by decide +kernel
theorem dX9_setAsideUnexplained_63 : decode cX9_setAsideUnexplained 63 = .ok (.goto (-44), 3) := by decide +kernel
theorem dX9_setAsideUnexplained_48 : decode cX9_setAsideUnexplained 48 = .ok (.aload_n 0, 1) := by decide +kernel
theorem dX9_setAsideUnexplained_49 : decode cX9_setAsideUnexplained 49 = .ok (.getfield 33, 3) := by decide +kernel
theorem dX9_setAsideUnexplained_52 : decode cX9_setAsideUnexplained 52 = .ok (.iload_n 2, 1) := by decide +kernel
theorem dX9_setAsideUnexplained_53 : decode cX9_setAsideUnexplained 53 = .ok (.invokevirtual 308, 3) := by decide +kernel
theorem dX9_setAsideUnexplained_56 : decode cX9_setAsideUnexplained 56 = .ok (.pop, 1) := by decide +kernel
theorem dX9_setAsideUnexplained_57 : decode cX9_setAsideUnexplained 57 = .ok (.iinc 1 1, 3) := by decide +kernel
/-! texts: the input of both, the output of both -/
def InC (σ : zS) (L : List Int) : Prop := σ.1 1 1 = L.length ∧ ∀ i : Nat, i < L.length → σ.1 2 i = zb8 (L.getD i 0)
def InM (σ : zS) (L : List Int) : Prop := σ.1 261 16 = L.length ∧ ∀ i : Nat, i < L.length → σ.1 269 i = L.getD i 0
def OutM (σ : zS) (L : List Int) : Prop := σ.1 261 27 = L.length ∧ ∀ i : Nat, i < L.length → σ.1 271 i = L.getD i 0
def txF (σ τ : zS) : Prop := zSame (fun q => q = 1 ∨ q = 2) σ τ ∧ ∀ i, i ≠ 1 → τ.1 1 i = σ.1 1 i
theorem txF_rf (σ : zS) : txF σ σ := ⟨zSame_rf _ _, fun _ _ => rfl⟩
theorem txF_tr {σ τ υ : zS} (h : txF σ τ) (h' : txF τ υ) : txF σ υ := ⟨zSame_tr h.1 h'.1 (fun _ q => q.elim id id), fun i hi => (h'.2 i hi).trans (h.2 i hi)⟩
def b4 (x : Int) : List Int := [zand (zshr x 24) 255, zand (zshr x 16) 255, zand (zshr x 8) 255, zand (zshr x 0) 255]
theorem b4_l (x : Int) : (b4 x).length = 4 := rfl
theorem getD_app (L : List Int) (v : Int) (i : Nat) : (L ++ [v]).getD i 0 = if i = L.length then v else L.getD i 0 := by
  simp only [List.getD_eq_getElem?_getD]
  by_cases q : i = L.length
  · rw [if_pos q, q]; simp
  · rw [if_neg q]
    by_cases q2 : i < L.length
    · rw [List.getElem?_append_left q2]
    · rw [List.getElem?_eq_none (by simp; omega), List.getElem?_eq_none (by omega)]
theorem InC_put {σ : zS} {L : List Int} {x v : Int} (h : InC σ L) (hv : zb8 x = zb8 v) : InC (zput (zput σ 2 (σ.1 1 1).toNat (zb8 x)) 1 1 (σ.1 1 1 + 1)) (L ++ [v]) := by
  obtain ⟨h1, h2⟩ := h
  refine ⟨(zput_s _ _ _ _).trans (by rw [h1, List.length_append]; rfl), fun i hi => (zput_k _ _ _ _ _ (by omega)).trans ?_⟩
  rw [List.length_append] at hi
  have hi2 : i < L.length + 1 := hi
  rw [getD_app, h1, Int.toNat_natCast, zput_e]
  by_cases q : i = L.length
  · rw [if_pos ⟨rfl, q⟩, if_pos q, hv]
  · rw [if_neg (fun z => q z.2), if_neg q]; exact h2 i (by omega)
theorem InM_put {σ : zS} {L : List Int} {v : Int} (h : InM σ L) : InM (zput (zput σ 269 (σ.1 261 16).toNat v) 261 16 (σ.1 261 16 + 1)) (L ++ [v]) := by
  obtain ⟨h1, h2⟩ := h
  refine ⟨(zput_s _ _ _ _).trans (by rw [h1, List.length_append]; rfl), fun i hi => (zput_k _ _ _ _ _ (by omega)).trans ?_⟩
  rw [List.length_append] at hi
  have hi2 : i < L.length + 1 := hi
  rw [getD_app, h1, Int.toNat_natCast, zput_e]
  by_cases q : i = L.length
  · rw [if_pos ⟨rfl, q⟩, if_pos q]
  · rw [if_neg (fun z => q z.2), if_neg q]; exact h2 i (by omega)
theorem OutM_put {σ : zS} {L : List Int} {v : Int} (h : OutM σ L) : OutM (zput (zput σ 271 (σ.1 261 27).toNat v) 261 27 (σ.1 261 27 + 1)) (L ++ [v]) := by
  obtain ⟨h1, h2⟩ := h
  refine ⟨(zput_s _ _ _ _).trans (by rw [h1, List.length_append]; rfl), fun i hi => (zput_k _ _ _ _ _ (by omega)).trans ?_⟩
  rw [List.length_append] at hi
  have hi2 : i < L.length + 1 := hi
  rw [getD_app, h1, Int.toNat_natCast, zput_e]
  by_cases q : i = L.length
  · rw [if_pos ⟨rfl, q⟩, if_pos q]
  · rw [if_neg (fun z => q z.2), if_neg q]; exact h2 i (by omega)
theorem getD_take (L : List Int) (n i : Nat) (h : i < n) : (L.take n).getD i 0 = L.getD i 0 := by
  simp only [List.getD_eq_getElem?_getD, List.getElem?_take, h, if_true]
theorem byte_0 (x : Int) : zb8 x = zb8 (zand (zshr x 0) 255) := by
  have e : zshr x 0 = (Int32.ofInt x).toInt := by
    unfold zshr
    have e : (Int32.ofInt 0 &&& 31) = 0 := by decide
    rw [e]; simp
  rw [e, zand_255]
  have h := z_ti (Int32.ofInt x)
  have h2 := z_nn x
  apply zb8_c
  rw [h]
  split <;> omega
/-! the letters of a name -/
def ltL (f : Nat → Int) : Nat → List Int
  | 0 => []
  | n + 1 => ltL f n ++ [f n]
theorem ltL_l (f : Nat → Int) : ∀ n, (ltL f n).length = n
  | 0 => rfl
  | n + 1 => by rw [ltL, List.length_append, ltL_l f n]; rfl
theorem nm_d {x : Int} (hx : 0 ≤ x ∧ x < 1073741824) {i : Nat} (hi : i ≤ 5) : zand (zushr x (5 * (i : Int))) 31 = x / ((32 ^ i : Nat) : Int) % 32 := by
  rw [zand_31, zushr_nn hx.1 (by unfold zr; omega) (by omega)]
  have e : (5 * (i : Int)).toNat = 5 * i := by omega
  rw [e, Nat.pow_mul]
theorem pkF_b {f : Nat → Int} : ∀ {n : Nat}, n ≤ 6 → (∀ k, k < n → 97 ≤ f k ∧ f k ≤ 122) → 0 ≤ pkF f n ∧ pkF f n < ((32 ^ n : Nat) : Int)
  | 0, _, _ => ⟨Int.le_refl _, by show (0 : Int) < 1; omega⟩
  | n + 1, h1, h => by
    have := pkF_b (f := f) (n := n) (by omega) (fun k hk => h k (by omega))
    have hn := h n (Nat.lt_succ_self n)
    rw [pkF]
    have e : ((32 ^ (n + 1) : Nat) : Int) = ((32 ^ n : Nat) : Int) * 32 := by rw [Nat.pow_succ, Int.natCast_mul]; rfl
    rw [e]
    omega
theorem nmL_s (x : Int) (i : Nat) : nmL x (i + 1) = (if zand (zushr x (5 * (i : Int))) 31 = 0 then [] else [97 + zand (zushr x (5 * (i : Int))) 31 - 1]) ++ nmL x i := rfl
theorem nmL_lo {x : Int} : ∀ {m n : Nat}, n ≤ m → m ≤ 6 → 0 ≤ x → x < ((32 ^ n : Nat) : Int) → nmL x m = nmL x n
  | 0, n, h, _, _, _ => by rw [show n = 0 by omega]
  | m + 1, n, h, hm, h0, hx => by
    by_cases e : n = m + 1
    · rw [e]
    · have hp : 32 ^ n ≤ 32 ^ m := Nat.pow_le_pow_right (by omega) (by omega)
      have hp6 : 32 ^ m ≤ 32 ^ 5 := Nat.pow_le_pow_right (by omega) (by omega)
      have e6 : (32 : Nat) ^ 5 = 33554432 := by decide
      have hxm : x < ((32 ^ m : Nat) : Int) := by omega
      rw [nmL_s, nm_d ⟨h0, by omega⟩ (by omega), Int.ediv_eq_zero_of_lt h0 hxm]
      rw [if_pos (by decide), List.nil_append]
      exact nmL_lo (by omega) (by omega) h0 hx
/-- the digits above the lowest ones are those of the quotient -/
theorem nmL_hi {x d : Int} (h0 : 0 ≤ x) (hx : x < 33554432) (hd : 1 ≤ d ∧ d ≤ 26) : ∀ {m : Nat}, m ≤ 5 → nmL (32 * x + d) (m + 1) = nmL x m ++ [96 + d]
  | 0, _ => by
    rw [nmL_s, nm_d ⟨by omega, by omega⟩ (by omega)]
    show (if (32 * x + d) / 1 % 32 = 0 then [] else [97 + (32 * x + d) / 1 % 32 - 1]) ++ [] = [] ++ [96 + d]
    have e : (32 * x + d) / 1 % 32 = d := by omega
    rw [e, if_neg (by omega)]
    simp; omega
  | m + 1, hm => by
    rw [nmL_s, nmL_hi h0 hx hd (by omega), nmL_s, nm_d ⟨by omega, by omega⟩ (by omega), nm_d ⟨h0, by omega⟩ (by omega)]
    have e : (32 * x + d) / ((32 ^ (m + 1) : Nat) : Int) = x / ((32 ^ m : Nat) : Int) := by
      have e2 : ((32 ^ (m + 1) : Nat) : Int) = 32 * ((32 ^ m : Nat) : Int) := by rw [Nat.pow_succ, Int.natCast_mul, Int.mul_comm]; rfl
      rw [e2, ← Int.ediv_ediv_of_nonneg (by omega)]
      have e3 : (32 * x + d) / 32 = x := by omega
      rw [e3]
    rw [e, List.append_assoc]
theorem nmL_pk {f : Nat → Int} : ∀ {n : Nat}, n ≤ 6 → (∀ k, k < n → 97 ≤ f k ∧ f k ≤ 122) → nmL (pkF f n) n = ltL f n
  | 0, _, _ => rfl
  | n + 1, h1, h => by
    have hb := pkF_b (f := f) (n := n) (by omega) (fun k hk => h k (by omega))
    have hn := h n (Nat.lt_succ_self n)
    have hp : 32 ^ n ≤ 32 ^ 5 := Nat.pow_le_pow_right (by omega) (by omega)
    have e6 : (32 : Nat) ^ 5 = 33554432 := by decide
    rw [pkF, nmL_hi hb.1 (by omega) (by omega) (by omega), nmL_pk (by omega) (fun k hk => h k (by omega)), ltL, show 96 + (f n - 96) = f n by omega]
theorem nmL_6 {f : Nat → Int} {n : Nat} (hn : n ≤ 6) (h : ∀ k, k < n → 97 ≤ f k ∧ f k ≤ 122) : nmL (pkF f n) 6 = ltL f n := by
  have hb := pkF_b hn h
  rw [nmL_lo (m := 6) hn (Nat.le_refl _) hb.1 hb.2, nmL_pk hn h]
/-! the verdict's text -/
noncomputable def fmC (D : zBk) : Nat → List Int
  | 0 => []
  | n + 1 => fmC D n ++ @ite (List Int) (Ht D (D 19 n).toNat) (Classical.propDecidable _) ([@ite Int (opn D (D 19 n).toNat) (Classical.propDecidable _) 45 43] ++ dgL (D 19 n)) []
noncomputable def fmL (D : zBk) (n : Nat) : List Int := nmL (D 2 (wP D (Ht D))) 6 ++ [32] ++ dgL (wY D (Ht D)) ++ fmC D n
theorem fmL_n {D : zBk} {n : Nat} (h : ¬ Ht D (D 19 n).toNat) : fmL D (n + 1) = fmL D n := by
  unfold fmL; rw [fmC, if_neg h, List.append_nil]
theorem fmL_o {D : zBk} {n : Nat} (h : Ht D (D 19 n).toNat) (h2 : opn D (D 19 n).toNat) : fmL D (n + 1) = (fmL D n ++ [45]) ++ dgL (D 19 n) := by
  unfold fmL; rw [fmC, if_pos h, if_pos h2]; simp
theorem fmL_e {D : zBk} {n : Nat} (h : Ht D (D 19 n).toNat) (h2 : ¬ opn D (D 19 n).toNat) : fmL D (n + 1) = (fmL D n ++ [43]) ++ dgL (D 19 n) := by
  unfold fmL; rw [fmC, if_pos h, if_neg h2]; simp
theorem dgL_l (x : Int) : (dgL x).length ≤ 4 := by
  unfold dgL
  simp only [List.length_append]
  (repeat' split) <;> simp
theorem dgL_l2 {x : Int} (h : x < 100) : (dgL x).length ≤ 2 := by
  unfold dgL
  simp only [List.length_append]
  rw [if_neg (by omega), if_neg (by omega)]
  split <;> simp
theorem nmL_l (x : Int) : ∀ n, (nmL x n).length ≤ n
  | 0 => Nat.le_refl _
  | n + 1 => by
    have := nmL_l x n
    rw [nmL_s, List.length_append]
    split <;> simp <;> omega
theorem fmC_l {D : zBk} (w : WF D) : ∀ n : Nat, (n : Int) ≤ D 12 0 → (fmC D n).length ≤ 3 * n
  | 0, _ => Nat.le_refl _
  | n + 1, h => by
    have := fmC_l w n (by omega)
    have ho := w.2.2.2.2.2.1 n (by omega)
    have hk := w.1.2.2.2
    have hd := dgL_l2 (x := D 19 n) (by omega)
    rw [fmC, List.length_append]
    split
    · rw [List.length_append]; simp; omega
    · simp; omega
theorem fmL_l {D : zBk} (w : WF D) {n : Nat} (h : (n : Int) ≤ D 12 0) : (fmL D n).length ≤ 11 + 3 * n := by
  unfold fmL
  have h1 := nmL_l (D 2 (wP D (Ht D))) 6
  have h2 := dgL_l (wY D (Ht D))
  have h3 := fmC_l w n h
  simp only [List.length_append, List.length_singleton]
  omega
theorem fmC_eq {D D' : zBk} (z : pEq D D') (w : WF D) (h1 : 1 ≤ D 1 0) : ∀ n : Nat, (n : Int) ≤ D 12 0 → fmC D' n = fmC D n
  | 0, _ => rfl
  | n + 1, h => by
    have ho := w.2.2.2.2.2.1 n (by omega)
    have e19 : D' 19 n = D 19 n := z 19 (by omega) n
    rw [fmC, fmC, fmC_eq z w h1 n (by omega), e19]
    have a := Ht_eq (pEq_z z) w (c := (D 19 n).toNat) (by omega)
    have b := opn_ag z w h1 (c := (D 19 n).toNat) (by omega)
    congr 1
    by_cases q : Ht D (D 19 n).toNat
    · rw [if_pos q, if_pos (a.mpr q)]
      by_cases q2 : opn D (D 19 n).toNat
      · rw [if_pos q2, if_pos (b.mpr q2)]
      · rw [if_neg q2, if_neg (fun q3 => q2 (b.mp q3))]
    · rw [if_neg q, if_neg (fun q3 => q (a.mp q3))]
/-- a number written from its highest place down -/
theorem wr_end {v by_ : Int} : True := trivial

theorem fm_0 (D : zBk) : fmL D 0 = nmL (D 2 (wP D (Ht D))) 6 ++ [32] ++ dgL (wY D (Ht D)) := List.append_nil _

theorem lEq_sy {D D' : zBk} (h : lEq D D') : lEq D' D := by
  obtain ⟨⟨a1, a2, a3, a4⟩, b, c, d, e⟩ := h
  exact ⟨⟨a1.symm, a2.symm, a3.symm, a4.symm⟩, fun p hp o h1 h2 => (b p (by rw [← a1]; exact hp) o h1 h2).symm, fun q hq => ⟨(c q (by rw [← a2]; exact hq)).1.symm, (c q (by rw [← a2]; exact hq)).2.symm⟩, fun q hq => ⟨(d q (by rw [← a3]; exact hq)).1.symm, (d q (by rw [← a3]; exact hq)).2.symm⟩, fun k hk o h1 h2 => (e k (by rw [← a4]; exact hk) o h1 h2).symm⟩
theorem clP_fi {D : zBk} {n : Nat} (h : ¬ opn D n) (i : Nat) : clP D (n + 1) 18 i = clP D n 18 i := by
  unfold clP
  by_cases e2 : (18 : Nat) = 18 ∧ i < n ∧ zb (opn D i) = 1
  · rw [if_pos e2, if_pos ⟨e2.1, by omega, e2.2.2⟩]
  · rw [if_neg e2, if_neg (fun q => by
      by_cases e3 : i = n
      · subst e3; have := q.2.2; rw [zb_f h] at this; omega
      · exact e2 ⟨q.1, by omega, q.2.2⟩)]
theorem clP_ti {D : zBk} {n : Nat} {f : Nat → Int} (h : opn D n) (h2 : ∀ i, f i = clP D n 18 i) (i : Nat) : (if (48 : Nat) = 48 ∧ i = n then 1 else f i) = clP D (n + 1) 18 i := by
  by_cases e : i = n
  · subst e
    rw [if_pos ⟨rfl, rfl⟩]; exact (if_pos ⟨rfl, Nat.lt_succ_self _, zb_t h⟩).symm
  · rw [if_neg (fun q => e q.2), h2]
    unfold clP
    by_cases e2 : (18 : Nat) = 18 ∧ i < n ∧ zb (opn D i) = 1
    · rw [if_pos e2, if_pos ⟨e2.1, by omega, e2.2.2⟩]
    · rw [if_neg e2, if_neg (by omega)]

set_option maxRecDepth 20000 in
set_option maxHeartbeats 2000000 in
theorem sX6_hasRoomFor {l : Launch} {w : zW} (hfl : l.stackTraces = false) {σ : zS} {x : Int} (hz : zOK σ) (hx : zr x) (hl : 0 ≤ σ.1 1 1 ∧ σ.1 1 1 ≤ 1400) : Sp l w mX6_hasRoomFor 0 0 [zf 6 1, zi x] σ (zret (zi (zb (0 ≤ x ∧ x ≤ 1400 - σ.1 1 1))) σ) := by
  obtain ⟨Q, hQ⟩ : ∃ Q : zQ, Q = (zret (zi (zb (0 ≤ x ∧ x ≤ 1400 - σ.1 1 1))) σ) := ⟨_, rfl⟩
  rw [← hQ]
  refine zx_enter hfl (by decide) rfl 0 rfl ?_
  show zX l w mX6_hasRoomFor (zMQ w 0 0 Q) 0 [zf 6 1, zi x] [] 0 σ
  refine zx_iloadN dX6_hasRoomFor_0 rfl rfl ?_
  refine zx_if_lt (tgt := 20) (by first | exact hz _ _ | assumption | exact zr_b _ | exact zcmp_r _ _ | (unfold zr at *; omega)) dX6_hasRoomFor_1 (by decide) (fun h1 => ?_) (fun h1 => ?_)
  · refine zx_iconst dX6_hasRoomFor_20 ?_
    refine zx_iret rfl rfl dX6_hasRoomFor_21 ?_
    rw [hQ]
    refine ⟨congrArg (fun z : Int => (Sum.inl (some (zi z)) : Option zV ⊕ String)) ?_, by first | rfl | (exfalso; omega)⟩
    first | rfl | exact (zb_t (by first | assumption | omega)).symm | exact (zb_f (by first | assumption | omega)).symm | exact zb_c (by constructor <;> intro q <;> omega)
  · refine zx_iloadN dX6_hasRoomFor_4 rfl rfl ?_
    refine zx_sipush dX6_hasRoomFor_5 rfl ?_
    refine zx_aloadN dX6_hasRoomFor_8 rfl rfl ?_
    refine zy_getI fl_RX6_15 rfl dX6_hasRoomFor_9 rfl ?_
    refine zx_isub dX6_hasRoomFor_12 ?_
    refine zx_icmp_gt (tgt := 20) (by first | exact hz _ _ | assumption | exact zr_b _ | exact zcmp_r _ _ | (unfold zr at *; omega)) (by first | exact hz _ _ | assumption | exact zr_b _ | exact zcmp_r _ _ | (unfold zr at *; omega)) dX6_hasRoomFor_13 (by decide) (fun h13 => ?_) (fun h13 => ?_)
    · refine zx_iconst dX6_hasRoomFor_20 ?_
      refine zx_iret rfl rfl dX6_hasRoomFor_21 ?_
      rw [hQ]
      refine ⟨congrArg (fun z : Int => (Sum.inl (some (zi z)) : Option zV ⊕ String)) ?_, by first | rfl | (exfalso; omega)⟩
      first | rfl | exact (zb_t (by first | assumption | omega)).symm | exact (zb_f (by first | assumption | omega)).symm | exact zb_c (by constructor <;> intro q <;> omega)
    · refine zx_iconst dX6_hasRoomFor_16 ?_
      refine zx_goto (tgt := 21) dX6_hasRoomFor_17 (by decide) ?_
      refine zx_iret rfl rfl dX6_hasRoomFor_21 ?_
      rw [hQ]
      refine ⟨congrArg (fun z : Int => (Sum.inl (some (zi z)) : Option zV ⊕ String)) ?_, by first | rfl | (exfalso; omega)⟩
      first | rfl | exact (zb_t (by first | assumption | omega)).symm | exact (zb_f (by first | assumption | omega)).symm | exact zb_c (by constructor <;> intro q <;> omega)
set_option maxRecDepth 20000 in
set_option maxHeartbeats 2000000 in
theorem sX6_addByte {l : Launch} {w : zW} (hfl : l.stackTraces = false) {σ : zS} {x v : Int} {L : List Int} (hz : zOK σ) (hx : zr x) (hL : InC σ L) (hl : L.length < 1400) (hv : zb8 x = zb8 v) : Sp l w mX6_addByte 0 0 [zf 6 1, zi x] σ (zqv (none) (fun τ => zOK τ ∧ txF σ τ ∧ InC τ (L ++ [v]))) := by
  obtain ⟨Q, hQ⟩ : ∃ Q : zQ, Q = (zqv (none) (fun τ => zOK τ ∧ txF σ τ ∧ InC τ (L ++ [v]))) := ⟨_, rfl⟩
  rw [← hQ]
  refine zx_enter hfl (by decide) rfl 0 rfl ?_
  show zX l w mX6_addByte (zMQ w 0 0 Q) 0 [zf 6 1, zi x] [] 0 σ
  have hL1 := hL.1
  refine zx_aloadN dX6_addByte_0 rfl rfl ?_
  refine zy_getI fl_RX6_15 rfl dX6_addByte_1 rfl ?_
  refine zx_if_lt (tgt := 40) (by first | exact hz _ _ | assumption | exact zr_b _ | exact zcmp_r _ _ | (unfold zr at *; omega)) dX6_addByte_4 (by decide) (fun h4 => ?_) (fun h4 => ?_)
  · refine zx_vret rfl dX6_addByte_40 ?_
    rw [hQ]
    refine ⟨rfl, ?_⟩
    first
    | (exfalso; omega)
    | exact ⟨hz, ⟨⟨fun q hq i => by have hq2 := hq; dsimp only at hq2; exact (zput_k _ _ _ _ _ (by omega)).trans (zput_k _ _ _ _ _ (by omega)), rfl⟩, fun i hi => (zput_i _ _ _ _ _ hi).trans (zput_k _ _ _ _ _ (by omega))⟩, InC_put hL hv⟩
  · refine zx_aloadN dX6_addByte_7 rfl rfl ?_
    refine zy_getI fl_RX6_15 rfl dX6_addByte_8 rfl ?_
    refine zx_aloadN dX6_addByte_11 rfl rfl ?_
    refine zy_getR (q' := 2) fl_RX6_9 rfl dX6_addByte_12 rfl ?_
    refine zx_alen (kd := 1) (n := 1400) rfl (by decide) (by decide) (by decide) dX6_addByte_15 ?_
    refine zx_icmp_ge (tgt := 40) (by first | exact hz _ _ | assumption | exact zr_b _ | exact zcmp_r _ _ | (unfold zr at *; omega)) (by first | exact hz _ _ | assumption | exact zr_b _ | exact zcmp_r _ _ | (unfold zr at *; omega)) dX6_addByte_16 (by decide) (fun h16 => ?_) (fun h16 => ?_)
    · refine zx_vret rfl dX6_addByte_40 ?_
      rw [hQ]
      refine ⟨rfl, ?_⟩
      first
      | (exfalso; omega)
      | exact ⟨hz, ⟨⟨fun q hq i => by have hq2 := hq; dsimp only at hq2; exact (zput_k _ _ _ _ _ (by omega)).trans (zput_k _ _ _ _ _ (by omega)), rfl⟩, fun i hi => (zput_i _ _ _ _ _ hi).trans (zput_k _ _ _ _ _ (by omega))⟩, InC_put hL hv⟩
    · refine zx_aloadN dX6_addByte_19 rfl rfl ?_
      refine zy_getR (q' := 2) fl_RX6_9 rfl dX6_addByte_20 rfl ?_
      refine zx_aloadN dX6_addByte_23 rfl rfl ?_
      refine zy_getI fl_RX6_15 rfl dX6_addByte_24 rfl ?_
      refine zx_iloadN dX6_addByte_27 rfl rfl ?_
      refine zx_i2b dX6_addByte_28 ?_
      refine zy_bast (i := (σ.1 1 1).toNat) (u := zb8 x) rfl (by decide) (by decide) dX6_addByte_29 (by omega) (by omega) rfl (zb8_idem _) ?_
      refine zx_aloadN dX6_addByte_30 rfl rfl ?_
      refine zx_dup rfl dX6_addByte_31 ?_
      refine zy_getI (v := σ.1 1 1) fl_RX6_15 rfl dX6_addByte_32 (zput_k _ _ _ _ _ (by omega)) ?_
      refine zx_iconst dX6_addByte_35 ?_
      refine zx_iadd dX6_addByte_36 ?_
      refine zx_putI fl_RX6_15 rfl (Or.inl fp_6_1) dX6_addByte_37 ?_
      refine zx_vret rfl dX6_addByte_40 ?_
      rw [hQ]
      refine ⟨rfl, ?_⟩
      first
      | (exfalso; omega)
      | exact ⟨(zOK_put (zOK_put hz (zr_b8 _)) (by first | exact hz _ _ | assumption | exact zr_b _ | exact zcmp_r _ _ | (unfold zr at *; omega))), ⟨⟨fun q hq i => by have hq2 := hq; dsimp only at hq2; exact (zput_k _ _ _ _ _ (by omega)).trans (zput_k _ _ _ _ _ (by omega)), rfl⟩, fun i hi => (zput_i _ _ _ _ _ hi).trans (zput_k _ _ _ _ _ (by omega))⟩, InC_put hL hv⟩
set_option maxRecDepth 20000 in
set_option maxHeartbeats 2000000 in
theorem sX6_addFourBytes {l : Launch} {w : zW} (hfl : l.stackTraces = false) {σ : zS} {x : Int} {L : List Int} (hz : zOK σ) (hx : zr x) (hL : InC σ L) (hl : L.length + 4 ≤ 1400) : Sp l w mX6_addFourBytes 1 0 [zf 6 1, zi x] σ (zqv (none) (fun τ => zOK τ ∧ txF σ τ ∧ InC τ (L ++ b4 x))) := by
  obtain ⟨Q, hQ⟩ : ∃ Q : zQ, Q = (zqv (none) (fun τ => zOK τ ∧ txF σ τ ∧ InC τ (L ++ b4 x))) := ⟨_, rfl⟩
  rw [← hQ]
  refine zx_enter hfl (by decide) rfl 0 rfl ?_
  show zX l w mX6_addFourBytes (zMQ w 1 0 Q) 0 [zf 6 1, zi x] [] 0 σ
  refine zx_aloadN dX6_addFourBytes_0 rfl rfl ?_
  refine zx_iloadN dX6_addFourBytes_1 rfl rfl ?_
  refine zx_bipush dX6_addFourBytes_2 rfl ?_
  refine zx_iushr dX6_addFourBytes_4 ?_
  refine zy_cvvR [zi (zushr x 24)] (sX6_addByte (L := L) (v := (zand (zshr x 24) 255)) hfl hz (by first | exact hz _ _ | assumption | exact zr_b _ | exact zcmp_r _ _ | exact zr_t _ | (unfold zr at *; omega)) hL (by omega) (byte_same hx (by omega))) dX6_addFourBytes_5 (by decide) rfl cw_RX6_34 okX6_addByte rfl (Nat.le_of_ble_eq_true rfl) ⟨Nat.le_of_ble_eq_true rfl, Nat.le_of_ble_eq_true rfl, Nat.le_of_ble_eq_true rfl, Nat.le_of_ble_eq_true rfl⟩ (fun τ5 hr5 => ?_)
  have hz5 : zOK τ5 := hr5.1
  refine zx_aloadN dX6_addFourBytes_8 rfl rfl ?_
  refine zx_iloadN dX6_addFourBytes_9 rfl rfl ?_
  refine zx_bipush dX6_addFourBytes_10 rfl ?_
  refine zx_iushr dX6_addFourBytes_12 ?_
  refine zy_cvvR [zi (zushr x 16)] (sX6_addByte (L := (L ++ [zand (zshr x 24) 255])) (v := (zand (zshr x 16) 255)) hfl hz5 (by first | exact hz5 _ _ | assumption | exact zr_b _ | exact zcmp_r _ _ | exact zr_t _ | (unfold zr at *; omega)) hr5.2.2 (by simp only [List.length_append, List.length_singleton]; omega) (byte_same hx (by omega))) dX6_addFourBytes_13 (by decide) rfl cw_RX6_34 okX6_addByte rfl (Nat.le_of_ble_eq_true rfl) ⟨Nat.le_of_ble_eq_true rfl, Nat.le_of_ble_eq_true rfl, Nat.le_of_ble_eq_true rfl, Nat.le_of_ble_eq_true rfl⟩ (fun τ13 hr13 => ?_)
  have hz13 : zOK τ13 := hr13.1
  refine zx_aloadN dX6_addFourBytes_16 rfl rfl ?_
  refine zx_iloadN dX6_addFourBytes_17 rfl rfl ?_
  refine zx_bipush dX6_addFourBytes_18 rfl ?_
  refine zx_iushr dX6_addFourBytes_20 ?_
  refine zy_cvvR [zi (zushr x 8)] (sX6_addByte (L := ((L ++ [zand (zshr x 24) 255]) ++ [zand (zshr x 16) 255])) (v := (zand (zshr x 8) 255)) hfl hz13 (by first | exact hz13 _ _ | assumption | exact zr_b _ | exact zcmp_r _ _ | exact zr_t _ | (unfold zr at *; omega)) hr13.2.2 (by simp only [List.length_append, List.length_singleton]; omega) (byte_same hx (by omega))) dX6_addFourBytes_21 (by decide) rfl cw_RX6_34 okX6_addByte rfl (Nat.le_of_ble_eq_true rfl) ⟨Nat.le_of_ble_eq_true rfl, Nat.le_of_ble_eq_true rfl, Nat.le_of_ble_eq_true rfl, Nat.le_of_ble_eq_true rfl⟩ (fun τ21 hr21 => ?_)
  have hz21 : zOK τ21 := hr21.1
  refine zx_aloadN dX6_addFourBytes_24 rfl rfl ?_
  refine zx_iloadN dX6_addFourBytes_25 rfl rfl ?_
  refine zy_cvvR [zi x] (sX6_addByte (L := (((L ++ [zand (zshr x 24) 255]) ++ [zand (zshr x 16) 255]) ++ [zand (zshr x 8) 255])) (v := (zand (zshr x 0) 255)) hfl hz21 (by first | exact hz21 _ _ | assumption | exact zr_b _ | exact zcmp_r _ _ | exact zr_t _ | (unfold zr at *; omega)) hr21.2.2 (by simp only [List.length_append, List.length_singleton]; omega) (byte_0 x)) dX6_addFourBytes_26 (by decide) rfl cw_RX6_34 okX6_addByte rfl (Nat.le_of_ble_eq_true rfl) ⟨Nat.le_of_ble_eq_true rfl, Nat.le_of_ble_eq_true rfl, Nat.le_of_ble_eq_true rfl, Nat.le_of_ble_eq_true rfl⟩ (fun τ26 hr26 => ?_)
  have hz26 : zOK τ26 := hr26.1
  refine zx_vret rfl dX6_addFourBytes_29 ?_
  rw [hQ]
  refine ⟨rfl, ?_⟩
  exact ⟨hz26, txF_tr (txF_tr (txF_tr hr5.2.1 hr13.2.1) hr21.2.1) hr26.2.1, by have h := hr26.2.2; simpa [b4] using h⟩
set_option maxRecDepth 20000 in
set_option maxHeartbeats 2000000 in
theorem sX6_cutTo {l : Launch} {w : zW} (hfl : l.stackTraces = false) {σ : zS} {x : Int} (hz : zOK σ) (hx : 0 ≤ x ∧ x ≤ σ.1 1 1) (hl : 0 ≤ σ.1 1 1 ∧ σ.1 1 1 ≤ 1400) : Sp l w mX6_cutTo 0 0 [zf 6 1, zi x] σ (zrtv (zput σ 1 1 x)) := by
  obtain ⟨Q, hQ⟩ : ∃ Q : zQ, Q = (zrtv (zput σ 1 1 x)) := ⟨_, rfl⟩
  rw [← hQ]
  refine zx_enter hfl (by decide) rfl 0 rfl ?_
  show zX l w mX6_cutTo (zMQ w 0 0 Q) 0 [zf 6 1, zi x] [] 0 σ
  have hx2 : zr x := by unfold zr; omega
  refine zx_iloadN dX6_cutTo_0 rfl rfl ?_
  refine zx_if_lt (tgt := 17) (by first | exact hz _ _ | assumption | exact zr_b _ | exact zcmp_r _ _ | (unfold zr at *; omega)) dX6_cutTo_1 (by decide) (fun h1 => ?_) (fun h1 => ?_)
  · refine zx_vret rfl dX6_cutTo_17 ?_
    rw [hQ]
    exact ⟨rfl, by first | rfl | (exfalso; omega)⟩
  · refine zx_iloadN dX6_cutTo_4 rfl rfl ?_
    refine zx_aloadN dX6_cutTo_5 rfl rfl ?_
    refine zy_getI fl_RX6_15 rfl dX6_cutTo_6 rfl ?_
    refine zx_icmp_gt (tgt := 17) (by first | exact hz _ _ | assumption | exact zr_b _ | exact zcmp_r _ _ | (unfold zr at *; omega)) (by first | exact hz _ _ | assumption | exact zr_b _ | exact zcmp_r _ _ | (unfold zr at *; omega)) dX6_cutTo_9 (by decide) (fun h9 => ?_) (fun h9 => ?_)
    · refine zx_vret rfl dX6_cutTo_17 ?_
      rw [hQ]
      exact ⟨rfl, by first | rfl | (exfalso; omega)⟩
    · refine zx_aloadN dX6_cutTo_12 rfl rfl ?_
      refine zx_iloadN dX6_cutTo_13 rfl rfl ?_
      refine zx_putI fl_RX6_15 rfl (Or.inl fp_6_1) dX6_cutTo_14 ?_
      refine zx_vret rfl dX6_cutTo_17 ?_
      rw [hQ]
      exact ⟨rfl, by first | rfl | (exfalso; omega)⟩
set_option maxRecDepth 20000 in
set_option maxHeartbeats 2000000 in
theorem sX9_append_f1 {l : Launch} {w : zW} (hfl : l.stackTraces = false) {σ : zS} {x0 x1 x2 x3 x4 : Int} {L : List Int} (hz : zOK σ) (hx0 : zr x0) (hx1 : zr x1) (hx2 : zr x2) (hx3 : zr x3) (hx4 : zr x4) (hL : InC σ L) (hl : L.length ≤ 1400) (hw : 1380 < L.length) : Sp l w mX9_append 6 1 [zf 9 0, zi x0, zi x1, zi x2, zi x3, zi x4] σ (zthr "java/lang/IllegalStateException" σ) := by
  obtain ⟨Q, hQ⟩ : ∃ Q : zQ, Q = (zthr "java/lang/IllegalStateException" σ) := ⟨_, rfl⟩
  rw [← hQ]
  refine zx_enter hfl (by decide) rfl 0 rfl ?_
  show zX l w mX9_append (zMQ w 6 1 Q) 0 [zf 9 0, zi x0, zi x1, zi x2, zi x3, zi x4] [] 0 σ
  have hL1 := hL.1
  refine zx_aloadN dX9_append_0 rfl rfl ?_
  refine zy_getR (q' := 1) fl_RX9_12 rfl dX9_append_1 rfl ?_
  refine zx_bipush dX9_append_4 rfl ?_
  refine zy_cv [zi 20] (sX6_hasRoomFor  hfl hz (by first | exact hz _ _ | assumption | exact zr_b _ | exact zcmp_r _ _ | (unfold zr at *; omega)) (by first | assumption | omega)) dX9_append_6 (by decide) rfl cw_RX9_98 okX6_hasRoomFor rfl (Nat.le_of_ble_eq_true rfl) ⟨Nat.le_of_ble_eq_true rfl, Nat.le_of_ble_eq_true rfl, Nat.le_of_ble_eq_true rfl, Nat.le_of_ble_eq_true rfl⟩ ?_
  refine zx_if_ne (tgt := 22) (by first | exact hz _ _ | assumption | exact zr_b _ | exact zcmp_r _ _ | (unfold zr at *; omega)) dX9_append_9 (by decide) (fun h9 => ?_) (fun h9 => ?_)
  · have h9 := zb_n.mp h9
    exfalso; omega
  · have h9 := zb_0.mp h9
    refine zx_throw (names := ["java/lang/RuntimeException", "java/lang/Exception"]) rfl (by decide +kernel) (by decide +kernel) th_RX9_106_102_k ei_IllegalStateException (List.mem_of_getElem? (i := 18) rfl) th_RX9_106 th_RX9_106_o th_RX9_106_g dX9_append_12 dX9_append_15 dX9_append_16 dX9_append_18 dX9_append_21 (Nat.le_of_ble_eq_true rfl) (Nat.le_of_ble_eq_true rfl) (Nat.le_of_ble_eq_true rfl) (Nat.le_of_ble_eq_true rfl) ?_
    rw [hQ]
    exact ⟨rfl, by first | rfl | (exfalso; omega)⟩
set_option maxRecDepth 20000 in
set_option maxHeartbeats 2000000 in
theorem sX9_append {l : Launch} {w : zW} (hfl : l.stackTraces = false) {σ : zS} {x0 x1 x2 x3 x4 : Int} {L : List Int} (hz : zOK σ) (hx0 : zr x0) (hx1 : zr x1) (hx2 : zr x2) (hx3 : zr x3) (hx4 : zr x4) (hL : InC σ L) (hl : L.length ≤ 1400) (hw : L.length ≤ 1380) : Sp l w mX9_append 6 0 [zf 9 0, zi x0, zi x1, zi x2, zi x3, zi x4] σ (zqv (some (zi ((L.length + 20 : Nat) : Int))) (fun τ => zOK τ ∧ txF σ τ ∧ InC τ (((((L ++ b4 x0) ++ b4 x1) ++ b4 x2) ++ b4 x3) ++ b4 x4))) := by
  obtain ⟨Q, hQ⟩ : ∃ Q : zQ, Q = (zqv (some (zi ((L.length + 20 : Nat) : Int))) (fun τ => zOK τ ∧ txF σ τ ∧ InC τ (((((L ++ b4 x0) ++ b4 x1) ++ b4 x2) ++ b4 x3) ++ b4 x4))) := ⟨_, rfl⟩
  rw [← hQ]
  refine zx_enter hfl (by decide) rfl 0 rfl ?_
  show zX l w mX9_append (zMQ w 6 0 Q) 0 [zf 9 0, zi x0, zi x1, zi x2, zi x3, zi x4] [] 0 σ
  have hL1 := hL.1
  refine zx_aloadN dX9_append_0 rfl rfl ?_
  refine zy_getR (q' := 1) fl_RX9_12 rfl dX9_append_1 rfl ?_
  refine zx_bipush dX9_append_4 rfl ?_
  refine zy_cv [zi 20] (sX6_hasRoomFor  hfl hz (by first | exact hz _ _ | assumption | exact zr_b _ | exact zcmp_r _ _ | (unfold zr at *; omega)) (by first | assumption | omega)) dX9_append_6 (by decide) rfl cw_RX9_98 okX6_hasRoomFor rfl (Nat.le_of_ble_eq_true rfl) ⟨Nat.le_of_ble_eq_true rfl, Nat.le_of_ble_eq_true rfl, Nat.le_of_ble_eq_true rfl, Nat.le_of_ble_eq_true rfl⟩ ?_
  refine zx_if_ne (tgt := 22) (by first | exact hz _ _ | assumption | exact zr_b _ | exact zcmp_r _ _ | (unfold zr at *; omega)) dX9_append_9 (by decide) (fun h9 => ?_) (fun h9 => ?_)
  · have h9 := zb_n.mp h9
    refine zx_aloadN dX9_append_22 rfl rfl ?_
    refine zy_getR (q' := 1) fl_RX9_12 rfl dX9_append_23 rfl ?_
    refine zx_iloadN dX9_append_26 rfl rfl ?_
    refine zy_cvvR [zi x0] (sX6_addFourBytes (L := L) hfl hz (by first | exact hz _ _ | assumption | exact zr_b _ | exact zcmp_r _ _ | (unfold zr at *; omega)) hL (by omega)) dX9_append_27 (by decide) rfl cw_RX9_108 okX6_addFourBytes rfl (Nat.le_of_ble_eq_true rfl) ⟨Nat.le_of_ble_eq_true rfl, Nat.le_of_ble_eq_true rfl, Nat.le_of_ble_eq_true rfl, Nat.le_of_ble_eq_true rfl⟩ (fun τ27 hr27 => ?_)
    have hz27 : zOK τ27 := hr27.1
    refine zx_aloadN dX9_append_30 rfl rfl ?_
    refine zy_getR (q' := 1) fl_RX9_12 rfl dX9_append_31 rfl ?_
    refine zx_iloadN dX9_append_34 rfl rfl ?_
    refine zy_cvvR [zi x1] (sX6_addFourBytes (L := (L ++ b4 x0)) hfl hz27 (by first | exact hz27 _ _ | assumption | exact zr_b _ | exact zcmp_r _ _ | (unfold zr at *; omega)) hr27.2.2 (by simp only [List.length_append, b4_l]; omega)) dX9_append_35 (by decide) rfl cw_RX9_108 okX6_addFourBytes rfl (Nat.le_of_ble_eq_true rfl) ⟨Nat.le_of_ble_eq_true rfl, Nat.le_of_ble_eq_true rfl, Nat.le_of_ble_eq_true rfl, Nat.le_of_ble_eq_true rfl⟩ (fun τ35 hr35 => ?_)
    have hz35 : zOK τ35 := hr35.1
    refine zx_aloadN dX9_append_38 rfl rfl ?_
    refine zy_getR (q' := 1) fl_RX9_12 rfl dX9_append_39 rfl ?_
    refine zx_iloadN dX9_append_42 rfl rfl ?_
    refine zy_cvvR [zi x2] (sX6_addFourBytes (L := ((L ++ b4 x0) ++ b4 x1)) hfl hz35 (by first | exact hz35 _ _ | assumption | exact zr_b _ | exact zcmp_r _ _ | (unfold zr at *; omega)) hr35.2.2 (by simp only [List.length_append, b4_l]; omega)) dX9_append_43 (by decide) rfl cw_RX9_108 okX6_addFourBytes rfl (Nat.le_of_ble_eq_true rfl) ⟨Nat.le_of_ble_eq_true rfl, Nat.le_of_ble_eq_true rfl, Nat.le_of_ble_eq_true rfl, Nat.le_of_ble_eq_true rfl⟩ (fun τ43 hr43 => ?_)
    have hz43 : zOK τ43 := hr43.1
    refine zx_aloadN dX9_append_46 rfl rfl ?_
    refine zy_getR (q' := 1) fl_RX9_12 rfl dX9_append_47 rfl ?_
    refine zx_iload dX9_append_50 rfl ?_
    refine zy_cvvR [zi x3] (sX6_addFourBytes (L := (((L ++ b4 x0) ++ b4 x1) ++ b4 x2)) hfl hz43 (by first | exact hz43 _ _ | assumption | exact zr_b _ | exact zcmp_r _ _ | (unfold zr at *; omega)) hr43.2.2 (by simp only [List.length_append, b4_l]; omega)) dX9_append_52 (by decide) rfl cw_RX9_108 okX6_addFourBytes rfl (Nat.le_of_ble_eq_true rfl) ⟨Nat.le_of_ble_eq_true rfl, Nat.le_of_ble_eq_true rfl, Nat.le_of_ble_eq_true rfl, Nat.le_of_ble_eq_true rfl⟩ (fun τ52 hr52 => ?_)
    have hz52 : zOK τ52 := hr52.1
    refine zx_aloadN dX9_append_55 rfl rfl ?_
    refine zy_getR (q' := 1) fl_RX9_12 rfl dX9_append_56 rfl ?_
    refine zx_iload dX9_append_59 rfl ?_
    refine zy_cvvR [zi x4] (sX6_addFourBytes (L := ((((L ++ b4 x0) ++ b4 x1) ++ b4 x2) ++ b4 x3)) hfl hz52 (by first | exact hz52 _ _ | assumption | exact zr_b _ | exact zcmp_r _ _ | (unfold zr at *; omega)) hr52.2.2 (by simp only [List.length_append, b4_l]; omega)) dX9_append_61 (by decide) rfl cw_RX9_108 okX6_addFourBytes rfl (Nat.le_of_ble_eq_true rfl) ⟨Nat.le_of_ble_eq_true rfl, Nat.le_of_ble_eq_true rfl, Nat.le_of_ble_eq_true rfl, Nat.le_of_ble_eq_true rfl⟩ (fun τ61 hr61 => ?_)
    have hz61 : zOK τ61 := hr61.1
    have hLe := hr61.2.2.1
    refine zx_aloadN dX9_append_64 rfl rfl ?_
    refine zy_getR (q' := 1) fl_RX9_12 rfl dX9_append_65 rfl ?_
    refine zy_getI fl_RX9_111 rfl dX9_append_68 rfl ?_
    refine zx_iret rfl rfl dX9_append_71 ?_
    rw [hQ]
    refine ⟨congrArg (fun z : Int => (Sum.inl (some (zi z)) : Option zV ⊕ String)) ?_, ?_⟩
    · rw [hLe]; simp only [List.length_append, b4_l]
    exact ⟨hz61, txF_tr (txF_tr (txF_tr (txF_tr hr27.2.1 hr35.2.1) hr43.2.1) hr52.2.1) hr61.2.1, hr61.2.2⟩
  · have h9 := zb_0.mp h9
    exfalso; omega
set_option maxRecDepth 20000 in
set_option maxHeartbeats 2000000 in
theorem sX9_truncate_f1 {l : Launch} {w : zW} (hfl : l.stackTraces = false) {σ : zS} {x : Int} {L : List Int} (hz : zOK σ) (hx : zr x) (hL : InC σ L) (hl : L.length ≤ 1400) (hw : ¬ (0 ≤ x ∧ x ≤ L.length)) : Sp l w mX9_truncate 6 1 [zf 9 0, zi x] σ (zthr "java/lang/IllegalArgumentException" σ) := by
  obtain ⟨Q, hQ⟩ : ∃ Q : zQ, Q = (zthr "java/lang/IllegalArgumentException" σ) := ⟨_, rfl⟩
  rw [← hQ]
  refine zx_enter hfl (by decide) rfl 0 rfl ?_
  show zX l w mX9_truncate (zMQ w 6 1 Q) 0 [zf 9 0, zi x] [] 0 σ
  have hL1 := hL.1
  refine zx_iloadN dX9_truncate_0 rfl rfl ?_
  refine zx_if_lt (tgt := 15) (by first | exact hz _ _ | assumption | exact zr_b _ | exact zcmp_r _ _ | (unfold zr at *; omega)) dX9_truncate_1 (by decide) (fun h1 => ?_) (fun h1 => ?_)
  · refine zx_throw (names := ["java/lang/RuntimeException", "java/lang/Exception"]) rfl (by decide +kernel) (by decide +kernel) th_RX9_119_115_k ei_IllegalArgumentException (List.mem_of_getElem? (i := 19) rfl) th_RX9_119 th_RX9_119_o th_RX9_119_g dX9_truncate_15 dX9_truncate_18 dX9_truncate_19 dX9_truncate_21 dX9_truncate_24 (Nat.le_of_ble_eq_true rfl) (Nat.le_of_ble_eq_true rfl) (Nat.le_of_ble_eq_true rfl) (Nat.le_of_ble_eq_true rfl) ?_
    rw [hQ]
    exact ⟨rfl, by first | rfl | (exfalso; omega)⟩
  · refine zx_iloadN dX9_truncate_4 rfl rfl ?_
    refine zx_aloadN dX9_truncate_5 rfl rfl ?_
    refine zy_getR (q' := 1) fl_RX9_12 rfl dX9_truncate_6 rfl ?_
    refine zy_getI fl_RX9_111 rfl dX9_truncate_9 rfl ?_
    refine zx_icmp_le (tgt := 25) (by first | exact hz _ _ | assumption | exact zr_b _ | exact zcmp_r _ _ | (unfold zr at *; omega)) (by first | exact hz _ _ | assumption | exact zr_b _ | exact zcmp_r _ _ | (unfold zr at *; omega)) dX9_truncate_12 (by decide) (fun h12 => ?_) (fun h12 => ?_)
    · exfalso; omega
    · refine zx_throw (names := ["java/lang/RuntimeException", "java/lang/Exception"]) rfl (by decide +kernel) (by decide +kernel) th_RX9_119_115_k ei_IllegalArgumentException (List.mem_of_getElem? (i := 19) rfl) th_RX9_119 th_RX9_119_o th_RX9_119_g dX9_truncate_15 dX9_truncate_18 dX9_truncate_19 dX9_truncate_21 dX9_truncate_24 (Nat.le_of_ble_eq_true rfl) (Nat.le_of_ble_eq_true rfl) (Nat.le_of_ble_eq_true rfl) (Nat.le_of_ble_eq_true rfl) ?_
      rw [hQ]
      exact ⟨rfl, by first | rfl | (exfalso; omega)⟩
set_option maxRecDepth 20000 in
set_option maxHeartbeats 2000000 in
theorem sX9_truncate {l : Launch} {w : zW} (hfl : l.stackTraces = false) {σ : zS} {x : Int} {L : List Int} (hz : zOK σ) (hx : zr x) (hL : InC σ L) (hl : L.length ≤ 1400) (hw : 0 ≤ x ∧ x ≤ L.length) : Sp l w mX9_truncate 6 0 [zf 9 0, zi x] σ (zqv (some (zi x)) (fun τ => zOK τ ∧ txF σ τ ∧ InC τ (L.take x.toNat))) := by
  obtain ⟨Q, hQ⟩ : ∃ Q : zQ, Q = (zqv (some (zi x)) (fun τ => zOK τ ∧ txF σ τ ∧ InC τ (L.take x.toNat))) := ⟨_, rfl⟩
  rw [← hQ]
  refine zx_enter hfl (by decide) rfl 0 rfl ?_
  show zX l w mX9_truncate (zMQ w 6 0 Q) 0 [zf 9 0, zi x] [] 0 σ
  have hL1 := hL.1
  refine zx_iloadN dX9_truncate_0 rfl rfl ?_
  refine zx_if_lt (tgt := 15) (by first | exact hz _ _ | assumption | exact zr_b _ | exact zcmp_r _ _ | (unfold zr at *; omega)) dX9_truncate_1 (by decide) (fun h1 => ?_) (fun h1 => ?_)
  · exfalso; omega
  · refine zx_iloadN dX9_truncate_4 rfl rfl ?_
    refine zx_aloadN dX9_truncate_5 rfl rfl ?_
    refine zy_getR (q' := 1) fl_RX9_12 rfl dX9_truncate_6 rfl ?_
    refine zy_getI fl_RX9_111 rfl dX9_truncate_9 rfl ?_
    refine zx_icmp_le (tgt := 25) (by first | exact hz _ _ | assumption | exact zr_b _ | exact zcmp_r _ _ | (unfold zr at *; omega)) (by first | exact hz _ _ | assumption | exact zr_b _ | exact zcmp_r _ _ | (unfold zr at *; omega)) dX9_truncate_12 (by decide) (fun h12 => ?_) (fun h12 => ?_)
    · refine zx_aloadN dX9_truncate_25 rfl rfl ?_
      refine zy_getR (q' := 1) fl_RX9_12 rfl dX9_truncate_26 rfl ?_
      refine zx_iloadN dX9_truncate_29 rfl rfl ?_
      refine zy_cvv [zi x] (sX6_cutTo  hfl hz (by first | assumption | omega) (by first | assumption | omega)) dX9_truncate_30 (by decide) rfl cw_RX9_87 okX6_cutTo rfl (Nat.le_of_ble_eq_true rfl) ⟨Nat.le_of_ble_eq_true rfl, Nat.le_of_ble_eq_true rfl, Nat.le_of_ble_eq_true rfl, Nat.le_of_ble_eq_true rfl⟩ ?_
      refine zx_aloadN dX9_truncate_33 rfl rfl ?_
      refine zy_getR (q' := 1) fl_RX9_12 rfl dX9_truncate_34 rfl ?_
      refine zy_getI (v := x) fl_RX9_111 rfl dX9_truncate_37 (zput_s _ _ _ _) ?_
      refine zx_iret rfl rfl dX9_truncate_40 ?_
      rw [hQ]
      refine ⟨congrArg (fun z : Int => (Sum.inl (some (zi z)) : Option zV ⊕ String)) ?_, ?_⟩
      · first | exact zput_s _ _ _ _ | rfl
      have el : (L.take x.toNat).length = x.toNat := by rw [List.length_take]; omega
      exact ⟨(zOK_put hz (by unfold zr; omega)), ⟨⟨fun q hq i => by have hq2 := hq; dsimp only at hq2; exact (zput_k _ _ _ _ _ (by omega)), rfl⟩, fun i hi => (zput_i _ _ _ _ _ hi)⟩, ⟨(zput_s _ _ _ _).trans (by rw [el]; omega), fun i hi => (zput_k _ _ _ _ _ (by omega)).trans (by rw [el] at hi; rw [getD_take _ _ _ hi]; exact hL.2 i (by omega))⟩⟩
    · exfalso; omega
set_option maxRecDepth 20000 in
set_option maxHeartbeats 2000000 in
theorem sX10_four {l : Launch} {w : zW} (hfl : l.stackTraces = false) {σ : zS} {x : Int} {L : List Int} (hz : zOK σ) (hx : zr x) (hL : InM σ L) (hl : L.length + 4 ≤ 1400) : Sp l w mX10_four 0 0 [zf 10 261, zi x] σ (zqv (none) (fun τ => zOK τ ∧ mfr σ τ (fun k => k = 269) (fun i => i = 16) ∧ InM τ (L ++ b4 x))) := by
  obtain ⟨Q, hQ⟩ : ∃ Q : zQ, Q = (zqv (none) (fun τ => zOK τ ∧ mfr σ τ (fun k => k = 269) (fun i => i = 16) ∧ InM τ (L ++ b4 x))) := ⟨_, rfl⟩
  rw [← hQ]
  refine zx_enter hfl (by decide) rfl 1 rfl ?_
  show zX l w mX10_four (zMQ w 0 0 Q) 0 [zf 10 261, zi x, zu] [] 0 σ
  refine zx_bipush dX10_four_0 rfl ?_
  refine zy_istoreN [zf 10 261, zi x, zi 24] dX10_four_2 rfl (Nat.le_of_ble_eq_true rfl) (Nat.le_of_ble_eq_true rfl) rfl rfl ?_
  have L3 : ∀ (N : Nat) (τ : zS) (j : Int) (M : List Int), (zOK τ) → ((j = 24 ∧ M = L) ∨ (j = 16 ∧ M = L ++ [zand (zshr x 24) 255]) ∨ (j = 8 ∧ M = (L ++ [zand (zshr x 24) 255]) ++ [zand (zshr x 16) 255]) ∨ (j = 0 ∧ M = ((L ++ [zand (zshr x 24) 255]) ++ [zand (zshr x 16) 255]) ++ [zand (zshr x 8) 255]) ∨ (j = -8 ∧ M = (((L ++ [zand (zshr x 24) 255]) ++ [zand (zshr x 16) 255]) ++ [zand (zshr x 8) 255]) ++ [zand (zshr x 0) 255])) → (mfr σ τ (fun k => k = 269) (fun i => i = 16)) → (InM τ M ∧ ((j = -8) ∨ M.length + 1 ≤ 1400)) → ((j + 9).toNat) < N → zX l w mX10_four (zMQ w 0 0 Q) 3 [zf 10 261, zi x, zi j] [] 0 τ := by
    intro N
    induction N with
    | zero => intro τ j M _ _ _ _ _; exact absurd (by assumption) (Nat.not_lt_zero _)
    | succ N ih3 =>
      intro τ j M hz hj h1 hM hN
      have hM1 := hM.1.1
      have hzj : zr j := by rcases hj with ⟨rfl, -⟩ | ⟨rfl, -⟩ | ⟨rfl, -⟩ | ⟨rfl, -⟩ | ⟨rfl, -⟩ <;> (unfold zr; omega)
      have hj24 : -8 ≤ j ∧ j ≤ 24 := by rcases hj with ⟨rfl, -⟩ | ⟨rfl, -⟩ | ⟨rfl, -⟩ | ⟨rfl, -⟩ | ⟨rfl, -⟩ <;> omega
      refine zx_iloadN dX10_four_3 rfl rfl ?_
      refine zx_if_lt (tgt := 39) (by first | exact hz _ _ | assumption | exact zr_b _ | exact zcmp_r _ _ | exact zr_t _ | (unfold zr at *; omega)) dX10_four_4 (by decide) (fun h4 => ?_) (fun h4 => ?_)
      · refine zx_vret rfl dX10_four_39 ?_
        rw [hQ]
        refine ⟨rfl, ?_⟩
        refine ⟨hz, h1, ?_⟩
        rcases hj with ⟨rfl, -⟩ | ⟨rfl, -⟩ | ⟨rfl, -⟩ | ⟨rfl, -⟩ | ⟨-, rfl⟩
        · exfalso; omega
        · exfalso; omega
        · exfalso; omega
        · exfalso; omega
        · have h := hM.1
          simpa [b4] using h
      · refine zx_aloadN dX10_four_7 rfl rfl ?_
        refine zy_getR (q' := 269) fl_RX10_31 rfl dX10_four_8 rfl ?_
        refine zx_aloadN dX10_four_11 rfl rfl ?_
        refine zy_getI fl_RX10_61 rfl dX10_four_12 rfl ?_
        refine zx_iloadN dX10_four_15 rfl rfl ?_
        refine zx_iloadN dX10_four_16 rfl rfl ?_
        refine zx_ishr dX10_four_17 ?_
        refine zx_sipush dX10_four_18 rfl ?_
        refine zx_iand dX10_four_21 ?_
        refine zy_iast (i := (τ.1 261 16).toNat) rfl (by decide) (by decide) dX10_four_22 (by omega) (by omega) rfl ?_
        refine zx_aloadN dX10_four_23 rfl rfl ?_
        refine zx_dup rfl dX10_four_24 ?_
        refine zy_getI (v := τ.1 261 16) fl_RX10_61 rfl dX10_four_25 (zput_k _ _ _ _ _ (by omega)) ?_
        refine zx_iconst dX10_four_28 ?_
        refine zx_iadd dX10_four_29 ?_
        refine zx_putI fl_RX10_61 rfl (Or.inl fp_10_16) dX10_four_30 ?_
        refine zy_iinc (b := j - 8) [zf 10 261, zi x, zi (j - 8)] dX10_four_33 rfl (by omega) (Nat.le_of_ble_eq_true rfl) rfl rfl ?_
        refine zx_goto (tgt := 3) dX10_four_36 (by decide) ?_
        exact ih3 (zput (zput τ 269 ((τ.1 261 16).toNat) (zand (zshr x j) 255)) 261 16 ((τ.1 261 16) + 1)) (j - 8) (M ++ [zand (zshr x j) 255]) (zOK_put (zOK_put hz (by first | exact hz _ _ | assumption | exact zr_b _ | exact zcmp_r _ _ | exact zr_t _ | (unfold zr at *; omega))) (by first | exact hz _ _ | assumption | exact zr_b _ | exact zcmp_r _ _ | exact zr_t _ | (unfold zr at *; omega))) (by
        rcases hj with ⟨rfl, rfl⟩ | ⟨rfl, rfl⟩ | ⟨rfl, rfl⟩ | ⟨rfl, rfl⟩ | ⟨rfl, rfl⟩
        · exact Or.inr (Or.inl ⟨by decide, rfl⟩)
        · exact Or.inr (Or.inr (Or.inl ⟨by decide, rfl⟩))
        · exact Or.inr (Or.inr (Or.inr (Or.inl ⟨by decide, rfl⟩)))
        · exact Or.inr (Or.inr (Or.inr (Or.inr ⟨by decide, rfl⟩)))
        · exfalso; omega) (mfr_mo (mfr_put261 (mfr_put h1 rfl (by decide))) (fun k q => q) (fun i q => q.elim id id)) (⟨InM_put hM.1, by
        rcases hj with ⟨rfl, rfl⟩ | ⟨rfl, rfl⟩ | ⟨rfl, rfl⟩ | ⟨rfl, rfl⟩ | ⟨rfl, rfl⟩
        all_goals first | exact Or.inl (by decide) | (refine Or.inr ?_; simp only [List.length_append, List.length_singleton]; omega) | (exfalso; omega)⟩) (by omega)
  exact L3 _ σ 24 L hz (Or.inl ⟨rfl, rfl⟩) (mfr_rf _ _ _) ⟨hL, Or.inr (by omega)⟩ (Nat.lt_succ_self _)
set_option maxRecDepth 20000 in
set_option maxHeartbeats 2000000 in
theorem sX10_append_t1 {l : Launch} {w : zW} (hfl : l.stackTraces = false) {σ : zS} {x0 x1 x2 x3 x4 : Int} {L : List Int} (hz : zOK σ) (hx0 : zr x0) (hx1 : zr x1) (hx2 : zr x2) (hx3 : zr x3) (hx4 : zr x4) (hL : InM σ L) (hl : L.length ≤ 1400) (hw : 1380 < L.length) : Sp l w mX10_append 1 0 [zf 10 261, zi x0, zi x1, zi x2, zi x3, zi x4] σ (zqv (some (zi 0)) (fun τ => zOK τ ∧ mfr σ τ (fun _ => False) (fun i => i = 6) ∧ τ.1 261 6 = 1)) := by
  obtain ⟨Q, hQ⟩ : ∃ Q : zQ, Q = (zqv (some (zi 0)) (fun τ => zOK τ ∧ mfr σ τ (fun _ => False) (fun i => i = 6) ∧ τ.1 261 6 = 1)) := ⟨_, rfl⟩
  rw [← hQ]
  refine zx_enter hfl (by decide) rfl 0 rfl ?_
  show zX l w mX10_append (zMQ w 1 0 Q) 0 [zf 10 261, zi x0, zi x1, zi x2, zi x3, zi x4] [] 0 σ
  have hL1 := hL.1
  refine zx_aloadN dX10_append_0 rfl rfl ?_
  refine zx_aloadN dX10_append_1 rfl rfl ?_
  refine zy_getI fl_RX10_61 rfl dX10_append_2 rfl ?_
  refine zx_bipush dX10_append_5 rfl ?_
  refine zx_iadd dX10_append_7 ?_
  refine zx_sipush dX10_append_8 rfl ?_
  refine zx_icmp_gt (tgt := 18) (by first | exact hz _ _ | assumption | exact zr_b _ | exact zcmp_r _ _ | (unfold zr at *; omega)) (by first | exact hz _ _ | assumption | exact zr_b _ | exact zcmp_r _ _ | (unfold zr at *; omega)) dX10_append_11 (by decide) (fun h11 => ?_) (fun h11 => ?_)
  · refine zx_iconst dX10_append_18 ?_
    refine zy_top (b := zb (σ.1 261 16 + 20 ≤ 1400)) (by first | exact (zb_t (by assumption)).symm | exact (zb_t (by omega)).symm | exact (zb_f (by omega)).symm | exact (zb_f (by assumption)).symm | exact (zb_f (fun q => q (by assumption))).symm) ?_
    refine zy_cv [zi (zb (σ.1 261 16 + 20 ≤ 1400))] (sX10_passes (A := (σ.1 261 16 + 20 ≤ 1400)) hfl hz ) dX10_append_19 (by decide) rfl cw_RX10_220 okX10_passes rfl (Nat.le_of_ble_eq_true rfl) ⟨Nat.le_of_ble_eq_true rfl, Nat.le_of_ble_eq_true rfl, Nat.le_of_ble_eq_true rfl, Nat.le_of_ble_eq_true rfl⟩ ?_
    refine zx_if_ne (tgt := 27) (by first | exact hz _ _ | assumption | exact zr_b _ | exact zcmp_r _ _ | (unfold zr at *; omega)) dX10_append_22 (by decide) (fun h22 => ?_) (fun h22 => ?_)
    · have h22 := zb_n.mp h22
      exfalso; omega
    · have h22 := zb_0.mp h22
      refine zx_iconst dX10_append_25 ?_
      refine zx_iret rfl rfl dX10_append_26 ?_
      rw [hQ]
      refine ⟨congrArg (fun z : Int => (Sum.inl (some (zi z)) : Option zV ⊕ String)) ?_, ?_⟩
      · rfl
      exact ⟨(zOK_put hz (zr_b _)), mfr_mo (mfr_put261 (mfr_rf σ (fun _ => False) (fun _ => False))) (fun k q => q) (fun i q => by rcases q with q | q; exact absurd q id; exact q), (zput_s _ _ _ _).trans (zb_t (by omega))⟩
  · refine zx_iconst dX10_append_14 ?_
    refine zx_goto (tgt := 19) dX10_append_15 (by decide) ?_
    refine zy_top (b := zb (σ.1 261 16 + 20 ≤ 1400)) (by first | exact (zb_t (by assumption)).symm | exact (zb_t (by omega)).symm | exact (zb_f (by omega)).symm | exact (zb_f (by assumption)).symm | exact (zb_f (fun q => q (by assumption))).symm) ?_
    refine zy_cv [zi (zb (σ.1 261 16 + 20 ≤ 1400))] (sX10_passes (A := (σ.1 261 16 + 20 ≤ 1400)) hfl hz ) dX10_append_19 (by decide) rfl cw_RX10_220 okX10_passes rfl (Nat.le_of_ble_eq_true rfl) ⟨Nat.le_of_ble_eq_true rfl, Nat.le_of_ble_eq_true rfl, Nat.le_of_ble_eq_true rfl, Nat.le_of_ble_eq_true rfl⟩ ?_
    refine zx_if_ne (tgt := 27) (by first | exact hz _ _ | assumption | exact zr_b _ | exact zcmp_r _ _ | (unfold zr at *; omega)) dX10_append_22 (by decide) (fun h22 => ?_) (fun h22 => ?_)
    · have h22 := zb_n.mp h22
      exfalso; omega
    · have h22 := zb_0.mp h22
      refine zx_iconst dX10_append_25 ?_
      refine zx_iret rfl rfl dX10_append_26 ?_
      rw [hQ]
      refine ⟨congrArg (fun z : Int => (Sum.inl (some (zi z)) : Option zV ⊕ String)) ?_, ?_⟩
      · rfl
      exact ⟨(zOK_put hz (zr_b _)), mfr_mo (mfr_put261 (mfr_rf σ (fun _ => False) (fun _ => False))) (fun k q => q) (fun i q => by rcases q with q | q; exact absurd q id; exact q), (zput_s _ _ _ _).trans (zb_t (by omega))⟩
set_option maxRecDepth 20000 in
set_option maxHeartbeats 2000000 in
theorem sX10_append {l : Launch} {w : zW} (hfl : l.stackTraces = false) {σ : zS} {x0 x1 x2 x3 x4 : Int} {L : List Int} (hz : zOK σ) (hx0 : zr x0) (hx1 : zr x1) (hx2 : zr x2) (hx3 : zr x3) (hx4 : zr x4) (hL : InM σ L) (hl : L.length ≤ 1400) (hw : L.length ≤ 1380) : Sp l w mX10_append 1 0 [zf 10 261, zi x0, zi x1, zi x2, zi x3, zi x4] σ (zqv (some (zi ((L.length + 20 : Nat) : Int))) (fun τ => zOK τ ∧ mfr σ τ (fun k => k = 269) (fun i => i = 6 ∨ i = 16) ∧ InM τ (((((L ++ b4 x0) ++ b4 x1) ++ b4 x2) ++ b4 x3) ++ b4 x4) ∧ τ.1 261 6 = 0)) := by
  obtain ⟨Q, hQ⟩ : ∃ Q : zQ, Q = (zqv (some (zi ((L.length + 20 : Nat) : Int))) (fun τ => zOK τ ∧ mfr σ τ (fun k => k = 269) (fun i => i = 6 ∨ i = 16) ∧ InM τ (((((L ++ b4 x0) ++ b4 x1) ++ b4 x2) ++ b4 x3) ++ b4 x4) ∧ τ.1 261 6 = 0)) := ⟨_, rfl⟩
  rw [← hQ]
  refine zx_enter hfl (by decide) rfl 0 rfl ?_
  show zX l w mX10_append (zMQ w 1 0 Q) 0 [zf 10 261, zi x0, zi x1, zi x2, zi x3, zi x4] [] 0 σ
  have hL1 := hL.1
  refine zx_aloadN dX10_append_0 rfl rfl ?_
  refine zx_aloadN dX10_append_1 rfl rfl ?_
  refine zy_getI fl_RX10_61 rfl dX10_append_2 rfl ?_
  refine zx_bipush dX10_append_5 rfl ?_
  refine zx_iadd dX10_append_7 ?_
  refine zx_sipush dX10_append_8 rfl ?_
  refine zx_icmp_gt (tgt := 18) (by first | exact hz _ _ | assumption | exact zr_b _ | exact zcmp_r _ _ | (unfold zr at *; omega)) (by first | exact hz _ _ | assumption | exact zr_b _ | exact zcmp_r _ _ | (unfold zr at *; omega)) dX10_append_11 (by decide) (fun h11 => ?_) (fun h11 => ?_)
  · refine zx_iconst dX10_append_18 ?_
    refine zy_top (b := zb (σ.1 261 16 + 20 ≤ 1400)) (by first | exact (zb_t (by assumption)).symm | exact (zb_t (by omega)).symm | exact (zb_f (by omega)).symm | exact (zb_f (by assumption)).symm | exact (zb_f (fun q => q (by assumption))).symm) ?_
    refine zy_cv [zi (zb (σ.1 261 16 + 20 ≤ 1400))] (sX10_passes (A := (σ.1 261 16 + 20 ≤ 1400)) hfl hz ) dX10_append_19 (by decide) rfl cw_RX10_220 okX10_passes rfl (Nat.le_of_ble_eq_true rfl) ⟨Nat.le_of_ble_eq_true rfl, Nat.le_of_ble_eq_true rfl, Nat.le_of_ble_eq_true rfl, Nat.le_of_ble_eq_true rfl⟩ ?_
    refine zx_if_ne (tgt := 27) (by first | exact hz _ _ | assumption | exact zr_b _ | exact zcmp_r _ _ | (unfold zr at *; omega)) dX10_append_22 (by decide) (fun h22 => ?_) (fun h22 => ?_)
    · have h22 := zb_n.mp h22
      refine zx_aloadN dX10_append_27 rfl rfl ?_
      refine zx_iloadN dX10_append_28 rfl rfl ?_
      refine zy_cvvR [zi x0] (sX10_four (L := L) hfl (zOK_put hz (zr_b _)) (by first | exact hz _ _ | assumption | exact zr_b _ | exact zcmp_r _ _ | (unfold zr at *; omega)) (⟨(zput_i _ _ _ _ _ (by decide)).trans hL.1, fun i hi => (zput_k _ _ _ _ _ (by decide)).trans (hL.2 i hi)⟩) (by omega)) dX10_append_29 (by decide) rfl cw_RX10_224 okX10_four rfl (Nat.le_of_ble_eq_true rfl) ⟨Nat.le_of_ble_eq_true rfl, Nat.le_of_ble_eq_true rfl, Nat.le_of_ble_eq_true rfl, Nat.le_of_ble_eq_true rfl⟩ (fun τ29 hr29 => ?_)
      have hz29 : zOK τ29 := hr29.1
      refine zx_aloadN dX10_append_32 rfl rfl ?_
      refine zx_iloadN dX10_append_33 rfl rfl ?_
      refine zy_cvvR [zi x1] (sX10_four (L := (L ++ b4 x0)) hfl hz29 (by first | exact hz29 _ _ | assumption | exact zr_b _ | exact zcmp_r _ _ | (unfold zr at *; omega)) hr29.2.2 (by simp only [List.length_append, b4_l]; omega)) dX10_append_34 (by decide) rfl cw_RX10_224 okX10_four rfl (Nat.le_of_ble_eq_true rfl) ⟨Nat.le_of_ble_eq_true rfl, Nat.le_of_ble_eq_true rfl, Nat.le_of_ble_eq_true rfl, Nat.le_of_ble_eq_true rfl⟩ (fun τ34 hr34 => ?_)
      have hz34 : zOK τ34 := hr34.1
      refine zx_aloadN dX10_append_37 rfl rfl ?_
      refine zx_iloadN dX10_append_38 rfl rfl ?_
      refine zy_cvvR [zi x2] (sX10_four (L := ((L ++ b4 x0) ++ b4 x1)) hfl hz34 (by first | exact hz34 _ _ | assumption | exact zr_b _ | exact zcmp_r _ _ | (unfold zr at *; omega)) hr34.2.2 (by simp only [List.length_append, b4_l]; omega)) dX10_append_39 (by decide) rfl cw_RX10_224 okX10_four rfl (Nat.le_of_ble_eq_true rfl) ⟨Nat.le_of_ble_eq_true rfl, Nat.le_of_ble_eq_true rfl, Nat.le_of_ble_eq_true rfl, Nat.le_of_ble_eq_true rfl⟩ (fun τ39 hr39 => ?_)
      have hz39 : zOK τ39 := hr39.1
      refine zx_aloadN dX10_append_42 rfl rfl ?_
      refine zx_iload dX10_append_43 rfl ?_
      refine zy_cvvR [zi x3] (sX10_four (L := (((L ++ b4 x0) ++ b4 x1) ++ b4 x2)) hfl hz39 (by first | exact hz39 _ _ | assumption | exact zr_b _ | exact zcmp_r _ _ | (unfold zr at *; omega)) hr39.2.2 (by simp only [List.length_append, b4_l]; omega)) dX10_append_45 (by decide) rfl cw_RX10_224 okX10_four rfl (Nat.le_of_ble_eq_true rfl) ⟨Nat.le_of_ble_eq_true rfl, Nat.le_of_ble_eq_true rfl, Nat.le_of_ble_eq_true rfl, Nat.le_of_ble_eq_true rfl⟩ (fun τ45 hr45 => ?_)
      have hz45 : zOK τ45 := hr45.1
      refine zx_aloadN dX10_append_48 rfl rfl ?_
      refine zx_iload dX10_append_49 rfl ?_
      refine zy_cvvR [zi x4] (sX10_four (L := ((((L ++ b4 x0) ++ b4 x1) ++ b4 x2) ++ b4 x3)) hfl hz45 (by first | exact hz45 _ _ | assumption | exact zr_b _ | exact zcmp_r _ _ | (unfold zr at *; omega)) hr45.2.2 (by simp only [List.length_append, b4_l]; omega)) dX10_append_51 (by decide) rfl cw_RX10_224 okX10_four rfl (Nat.le_of_ble_eq_true rfl) ⟨Nat.le_of_ble_eq_true rfl, Nat.le_of_ble_eq_true rfl, Nat.le_of_ble_eq_true rfl, Nat.le_of_ble_eq_true rfl⟩ (fun τ51 hr51 => ?_)
      have hz51 : zOK τ51 := hr51.1
      have hLe := hr51.2.2.1
      refine zx_aloadN dX10_append_54 rfl rfl ?_
      refine zy_getI fl_RX10_61 rfl dX10_append_55 rfl ?_
      refine zx_iret rfl rfl dX10_append_58 ?_
      rw [hQ]
      refine ⟨congrArg (fun z : Int => (Sum.inl (some (zi z)) : Option zV ⊕ String)) ?_, ?_⟩
      · rw [hLe]; simp only [List.length_append, b4_l]
      have m0 : mfr σ (zput σ 261 6 (zb (¬ (σ.1 261 16 + 20 ≤ 1400)))) (fun k => k = 269) (fun i => i = 6 ∨ i = 16) := mfr_mo (mfr_put261 (mfr_rf σ (fun _ => False) (fun _ => False))) (fun k q => absurd q id) (fun i q => by rcases q with q | q; exact absurd q id; exact Or.inl q)
      have m1 := mfr_tr (A'' := fun k => k = 269) (F'' := fun i => i = 6 ∨ i = 16) m0 hr29.2.1 (fun k q => q.elim id id) (fun i q => q.elim id Or.inr)
      have m2 := mfr_tr (A'' := fun k => k = 269) (F'' := fun i => i = 6 ∨ i = 16) m1 hr34.2.1 (fun k q => q.elim id id) (fun i q => q.elim id Or.inr)
      have m3 := mfr_tr (A'' := fun k => k = 269) (F'' := fun i => i = 6 ∨ i = 16) m2 hr39.2.1 (fun k q => q.elim id id) (fun i q => q.elim id Or.inr)
      have m4 := mfr_tr (A'' := fun k => k = 269) (F'' := fun i => i = 6 ∨ i = 16) m3 hr45.2.1 (fun k q => q.elim id id) (fun i q => q.elim id Or.inr)
      have m5 := mfr_tr (A'' := fun k => k = 269) (F'' := fun i => i = 6 ∨ i = 16) m4 hr51.2.1 (fun k q => q.elim id id) (fun i q => q.elim id Or.inr)
      exact ⟨hz51, m5, hr51.2.2, (hr51.2.1.2.1 6 (by decide)).trans ((hr45.2.1.2.1 6 (by decide)).trans ((hr39.2.1.2.1 6 (by decide)).trans ((hr34.2.1.2.1 6 (by decide)).trans ((hr29.2.1.2.1 6 (by decide)).trans ((zput_s _ _ _ _).trans (zb_f (fun q => q (by omega))))))))⟩
    · have h22 := zb_0.mp h22
      exfalso; omega
  · refine zx_iconst dX10_append_14 ?_
    refine zx_goto (tgt := 19) dX10_append_15 (by decide) ?_
    refine zy_top (b := zb (σ.1 261 16 + 20 ≤ 1400)) (by first | exact (zb_t (by assumption)).symm | exact (zb_t (by omega)).symm | exact (zb_f (by omega)).symm | exact (zb_f (by assumption)).symm | exact (zb_f (fun q => q (by assumption))).symm) ?_
    refine zy_cv [zi (zb (σ.1 261 16 + 20 ≤ 1400))] (sX10_passes (A := (σ.1 261 16 + 20 ≤ 1400)) hfl hz ) dX10_append_19 (by decide) rfl cw_RX10_220 okX10_passes rfl (Nat.le_of_ble_eq_true rfl) ⟨Nat.le_of_ble_eq_true rfl, Nat.le_of_ble_eq_true rfl, Nat.le_of_ble_eq_true rfl, Nat.le_of_ble_eq_true rfl⟩ ?_
    refine zx_if_ne (tgt := 27) (by first | exact hz _ _ | assumption | exact zr_b _ | exact zcmp_r _ _ | (unfold zr at *; omega)) dX10_append_22 (by decide) (fun h22 => ?_) (fun h22 => ?_)
    · have h22 := zb_n.mp h22
      refine zx_aloadN dX10_append_27 rfl rfl ?_
      refine zx_iloadN dX10_append_28 rfl rfl ?_
      refine zy_cvvR [zi x0] (sX10_four (L := L) hfl (zOK_put hz (zr_b _)) (by first | exact hz _ _ | assumption | exact zr_b _ | exact zcmp_r _ _ | (unfold zr at *; omega)) (⟨(zput_i _ _ _ _ _ (by decide)).trans hL.1, fun i hi => (zput_k _ _ _ _ _ (by decide)).trans (hL.2 i hi)⟩) (by omega)) dX10_append_29 (by decide) rfl cw_RX10_224 okX10_four rfl (Nat.le_of_ble_eq_true rfl) ⟨Nat.le_of_ble_eq_true rfl, Nat.le_of_ble_eq_true rfl, Nat.le_of_ble_eq_true rfl, Nat.le_of_ble_eq_true rfl⟩ (fun τ29 hr29 => ?_)
      have hz29 : zOK τ29 := hr29.1
      refine zx_aloadN dX10_append_32 rfl rfl ?_
      refine zx_iloadN dX10_append_33 rfl rfl ?_
      refine zy_cvvR [zi x1] (sX10_four (L := (L ++ b4 x0)) hfl hz29 (by first | exact hz29 _ _ | assumption | exact zr_b _ | exact zcmp_r _ _ | (unfold zr at *; omega)) hr29.2.2 (by simp only [List.length_append, b4_l]; omega)) dX10_append_34 (by decide) rfl cw_RX10_224 okX10_four rfl (Nat.le_of_ble_eq_true rfl) ⟨Nat.le_of_ble_eq_true rfl, Nat.le_of_ble_eq_true rfl, Nat.le_of_ble_eq_true rfl, Nat.le_of_ble_eq_true rfl⟩ (fun τ34 hr34 => ?_)
      have hz34 : zOK τ34 := hr34.1
      refine zx_aloadN dX10_append_37 rfl rfl ?_
      refine zx_iloadN dX10_append_38 rfl rfl ?_
      refine zy_cvvR [zi x2] (sX10_four (L := ((L ++ b4 x0) ++ b4 x1)) hfl hz34 (by first | exact hz34 _ _ | assumption | exact zr_b _ | exact zcmp_r _ _ | (unfold zr at *; omega)) hr34.2.2 (by simp only [List.length_append, b4_l]; omega)) dX10_append_39 (by decide) rfl cw_RX10_224 okX10_four rfl (Nat.le_of_ble_eq_true rfl) ⟨Nat.le_of_ble_eq_true rfl, Nat.le_of_ble_eq_true rfl, Nat.le_of_ble_eq_true rfl, Nat.le_of_ble_eq_true rfl⟩ (fun τ39 hr39 => ?_)
      have hz39 : zOK τ39 := hr39.1
      refine zx_aloadN dX10_append_42 rfl rfl ?_
      refine zx_iload dX10_append_43 rfl ?_
      refine zy_cvvR [zi x3] (sX10_four (L := (((L ++ b4 x0) ++ b4 x1) ++ b4 x2)) hfl hz39 (by first | exact hz39 _ _ | assumption | exact zr_b _ | exact zcmp_r _ _ | (unfold zr at *; omega)) hr39.2.2 (by simp only [List.length_append, b4_l]; omega)) dX10_append_45 (by decide) rfl cw_RX10_224 okX10_four rfl (Nat.le_of_ble_eq_true rfl) ⟨Nat.le_of_ble_eq_true rfl, Nat.le_of_ble_eq_true rfl, Nat.le_of_ble_eq_true rfl, Nat.le_of_ble_eq_true rfl⟩ (fun τ45 hr45 => ?_)
      have hz45 : zOK τ45 := hr45.1
      refine zx_aloadN dX10_append_48 rfl rfl ?_
      refine zx_iload dX10_append_49 rfl ?_
      refine zy_cvvR [zi x4] (sX10_four (L := ((((L ++ b4 x0) ++ b4 x1) ++ b4 x2) ++ b4 x3)) hfl hz45 (by first | exact hz45 _ _ | assumption | exact zr_b _ | exact zcmp_r _ _ | (unfold zr at *; omega)) hr45.2.2 (by simp only [List.length_append, b4_l]; omega)) dX10_append_51 (by decide) rfl cw_RX10_224 okX10_four rfl (Nat.le_of_ble_eq_true rfl) ⟨Nat.le_of_ble_eq_true rfl, Nat.le_of_ble_eq_true rfl, Nat.le_of_ble_eq_true rfl, Nat.le_of_ble_eq_true rfl⟩ (fun τ51 hr51 => ?_)
      have hz51 : zOK τ51 := hr51.1
      have hLe := hr51.2.2.1
      refine zx_aloadN dX10_append_54 rfl rfl ?_
      refine zy_getI fl_RX10_61 rfl dX10_append_55 rfl ?_
      refine zx_iret rfl rfl dX10_append_58 ?_
      rw [hQ]
      refine ⟨congrArg (fun z : Int => (Sum.inl (some (zi z)) : Option zV ⊕ String)) ?_, ?_⟩
      · rw [hLe]; simp only [List.length_append, b4_l]
      have m0 : mfr σ (zput σ 261 6 (zb (¬ (σ.1 261 16 + 20 ≤ 1400)))) (fun k => k = 269) (fun i => i = 6 ∨ i = 16) := mfr_mo (mfr_put261 (mfr_rf σ (fun _ => False) (fun _ => False))) (fun k q => absurd q id) (fun i q => by rcases q with q | q; exact absurd q id; exact Or.inl q)
      have m1 := mfr_tr (A'' := fun k => k = 269) (F'' := fun i => i = 6 ∨ i = 16) m0 hr29.2.1 (fun k q => q.elim id id) (fun i q => q.elim id Or.inr)
      have m2 := mfr_tr (A'' := fun k => k = 269) (F'' := fun i => i = 6 ∨ i = 16) m1 hr34.2.1 (fun k q => q.elim id id) (fun i q => q.elim id Or.inr)
      have m3 := mfr_tr (A'' := fun k => k = 269) (F'' := fun i => i = 6 ∨ i = 16) m2 hr39.2.1 (fun k q => q.elim id id) (fun i q => q.elim id Or.inr)
      have m4 := mfr_tr (A'' := fun k => k = 269) (F'' := fun i => i = 6 ∨ i = 16) m3 hr45.2.1 (fun k q => q.elim id id) (fun i q => q.elim id Or.inr)
      have m5 := mfr_tr (A'' := fun k => k = 269) (F'' := fun i => i = 6 ∨ i = 16) m4 hr51.2.1 (fun k q => q.elim id id) (fun i q => q.elim id Or.inr)
      exact ⟨hz51, m5, hr51.2.2, (hr51.2.1.2.1 6 (by decide)).trans ((hr45.2.1.2.1 6 (by decide)).trans ((hr39.2.1.2.1 6 (by decide)).trans ((hr34.2.1.2.1 6 (by decide)).trans ((hr29.2.1.2.1 6 (by decide)).trans ((zput_s _ _ _ _).trans (zb_f (fun q => q (by omega))))))))⟩
    · have h22 := zb_0.mp h22
      exfalso; omega
set_option maxRecDepth 20000 in
set_option maxHeartbeats 2000000 in
theorem sX10_truncate_t1 {l : Launch} {w : zW} (hfl : l.stackTraces = false) {σ : zS} {x : Int} {L : List Int} (hz : zOK σ) (hx : zr x) (hL : InM σ L) (hl : L.length ≤ 1400) (hw : ¬ (0 ≤ x ∧ x ≤ L.length)) : Sp l w mX10_truncate 1 0 [zf 10 261, zi x] σ (zqv (some (zi 0)) (fun τ => zOK τ ∧ mfr σ τ (fun _ => False) (fun i => i = 6) ∧ τ.1 261 6 = 1)) := by
  obtain ⟨Q, hQ⟩ : ∃ Q : zQ, Q = (zqv (some (zi 0)) (fun τ => zOK τ ∧ mfr σ τ (fun _ => False) (fun i => i = 6) ∧ τ.1 261 6 = 1)) := ⟨_, rfl⟩
  rw [← hQ]
  refine zx_enter hfl (by decide) rfl 0 rfl ?_
  show zX l w mX10_truncate (zMQ w 1 0 Q) 0 [zf 10 261, zi x] [] 0 σ
  have hL1 := hL.1
  refine zx_aloadN dX10_truncate_0 rfl rfl ?_
  refine zx_iloadN dX10_truncate_1 rfl rfl ?_
  refine zx_i2l (by first | exact hz _ _ | assumption | exact zr_b _ | exact zcmp_r _ _ | (unfold zr at *; omega)) dX10_truncate_2 ?_
  refine zx_lconst (a := 0) dX10_truncate_3 rfl ?_
  refine zx_aloadN dX10_truncate_4 rfl rfl ?_
  refine zy_getI fl_RX10_61 rfl dX10_truncate_5 rfl ?_
  refine zx_i2l (by first | exact hz _ _ | assumption | exact zr_b _ | exact zcmp_r _ _ | (unfold zr at *; omega)) dX10_truncate_8 ?_
  refine zy_cs [zl x, zl 0, zl (σ.1 261 16)] (sX10_in  hfl hz (by first | exact hz _ _ | assumption | exact zr_b _ | exact zcmp_r _ _ | (unfold zr at *; omega)) (by first | exact hz _ _ | assumption | exact zr_b _ | exact zcmp_r _ _ | (unfold zr at *; omega)) (by first | exact hz _ _ | assumption | exact zr_b _ | exact zcmp_r _ _ | (unfold zr at *; omega))) dX10_truncate_9 cw_RX10_74 okX10_in rfl (Nat.le_of_ble_eq_true rfl) ⟨Nat.le_of_ble_eq_true rfl, Nat.le_of_ble_eq_true rfl, Nat.le_of_ble_eq_true rfl, Nat.le_of_ble_eq_true rfl⟩ ?_
  refine zy_cv [zi (zb (0 ≤ x ∧ x ≤ (σ.1 261 16)))] (sX10_passes (A := (0 ≤ x ∧ x ≤ (σ.1 261 16))) hfl hz ) dX10_truncate_12 (by decide) rfl cw_RX10_220 okX10_passes rfl (Nat.le_of_ble_eq_true rfl) ⟨Nat.le_of_ble_eq_true rfl, Nat.le_of_ble_eq_true rfl, Nat.le_of_ble_eq_true rfl, Nat.le_of_ble_eq_true rfl⟩ ?_
  refine zx_if_ne (tgt := 20) (by first | exact hz _ _ | assumption | exact zr_b _ | exact zcmp_r _ _ | (unfold zr at *; omega)) dX10_truncate_15 (by decide) (fun h15 => ?_) (fun h15 => ?_)
  · have h15 := zb_n.mp h15
    exfalso; omega
  · have h15 := zb_0.mp h15
    refine zx_iconst dX10_truncate_18 ?_
    refine zx_iret rfl rfl dX10_truncate_19 ?_
    rw [hQ]
    refine ⟨congrArg (fun z : Int => (Sum.inl (some (zi z)) : Option zV ⊕ String)) ?_, ?_⟩
    · rfl
    exact ⟨(zOK_put hz (zr_b _)), mfr_mo (mfr_put261 (mfr_rf σ (fun _ => False) (fun _ => False))) (fun k q => q) (fun i q => by rcases q with q | q; exact absurd q id; exact q), (zput_s _ _ _ _).trans (zb_t (by omega))⟩
set_option maxRecDepth 20000 in
set_option maxHeartbeats 2000000 in
theorem sX10_truncate {l : Launch} {w : zW} (hfl : l.stackTraces = false) {σ : zS} {x : Int} {L : List Int} (hz : zOK σ) (hx : zr x) (hL : InM σ L) (hl : L.length ≤ 1400) (hw : 0 ≤ x ∧ x ≤ L.length) : Sp l w mX10_truncate 1 0 [zf 10 261, zi x] σ (zqv (some (zi x)) (fun τ => zOK τ ∧ mfr σ τ (fun _ => False) (fun i => i = 6 ∨ i = 16) ∧ InM τ (L.take x.toNat) ∧ τ.1 261 6 = 0)) := by
  obtain ⟨Q, hQ⟩ : ∃ Q : zQ, Q = (zqv (some (zi x)) (fun τ => zOK τ ∧ mfr σ τ (fun _ => False) (fun i => i = 6 ∨ i = 16) ∧ InM τ (L.take x.toNat) ∧ τ.1 261 6 = 0)) := ⟨_, rfl⟩
  rw [← hQ]
  refine zx_enter hfl (by decide) rfl 0 rfl ?_
  show zX l w mX10_truncate (zMQ w 1 0 Q) 0 [zf 10 261, zi x] [] 0 σ
  have hL1 := hL.1
  refine zx_aloadN dX10_truncate_0 rfl rfl ?_
  refine zx_iloadN dX10_truncate_1 rfl rfl ?_
  refine zx_i2l (by first | exact hz _ _ | assumption | exact zr_b _ | exact zcmp_r _ _ | (unfold zr at *; omega)) dX10_truncate_2 ?_
  refine zx_lconst (a := 0) dX10_truncate_3 rfl ?_
  refine zx_aloadN dX10_truncate_4 rfl rfl ?_
  refine zy_getI fl_RX10_61 rfl dX10_truncate_5 rfl ?_
  refine zx_i2l (by first | exact hz _ _ | assumption | exact zr_b _ | exact zcmp_r _ _ | (unfold zr at *; omega)) dX10_truncate_8 ?_
  refine zy_cs [zl x, zl 0, zl (σ.1 261 16)] (sX10_in  hfl hz (by first | exact hz _ _ | assumption | exact zr_b _ | exact zcmp_r _ _ | (unfold zr at *; omega)) (by first | exact hz _ _ | assumption | exact zr_b _ | exact zcmp_r _ _ | (unfold zr at *; omega)) (by first | exact hz _ _ | assumption | exact zr_b _ | exact zcmp_r _ _ | (unfold zr at *; omega))) dX10_truncate_9 cw_RX10_74 okX10_in rfl (Nat.le_of_ble_eq_true rfl) ⟨Nat.le_of_ble_eq_true rfl, Nat.le_of_ble_eq_true rfl, Nat.le_of_ble_eq_true rfl, Nat.le_of_ble_eq_true rfl⟩ ?_
  refine zy_cv [zi (zb (0 ≤ x ∧ x ≤ (σ.1 261 16)))] (sX10_passes (A := (0 ≤ x ∧ x ≤ (σ.1 261 16))) hfl hz ) dX10_truncate_12 (by decide) rfl cw_RX10_220 okX10_passes rfl (Nat.le_of_ble_eq_true rfl) ⟨Nat.le_of_ble_eq_true rfl, Nat.le_of_ble_eq_true rfl, Nat.le_of_ble_eq_true rfl, Nat.le_of_ble_eq_true rfl⟩ ?_
  refine zx_if_ne (tgt := 20) (by first | exact hz _ _ | assumption | exact zr_b _ | exact zcmp_r _ _ | (unfold zr at *; omega)) dX10_truncate_15 (by decide) (fun h15 => ?_) (fun h15 => ?_)
  · have h15 := zb_n.mp h15
    refine zx_aloadN dX10_truncate_20 rfl rfl ?_
    refine zx_iloadN dX10_truncate_21 rfl rfl ?_
    refine zx_putI fl_RX10_61 rfl (Or.inl fp_10_16) dX10_truncate_22 ?_
    refine zx_iloadN dX10_truncate_25 rfl rfl ?_
    refine zx_iret rfl rfl dX10_truncate_26 ?_
    rw [hQ]
    refine ⟨congrArg (fun z : Int => (Sum.inl (some (zi z)) : Option zV ⊕ String)) ?_, ?_⟩
    · rfl
    have el : (L.take x.toNat).length = x.toNat := by rw [List.length_take]; omega
    exact ⟨(zOK_put (zOK_put hz (zr_b _)) (by first | exact hz _ _ | assumption | exact zr_b _ | exact zcmp_r _ _ | (unfold zr at *; omega))), mfr_mo (mfr_put261 (mfr_put261 (mfr_rf σ (fun _ => False) (fun _ => False)))) (fun k q => q) (fun i q => by rcases q with (q | q) | q; exact absurd q id; exact Or.inl q; exact Or.inr q), ⟨(zput_s _ _ _ _).trans (by rw [el]; omega), fun i hi => (zput_k _ _ _ _ _ (by omega)).trans ((zput_k _ _ _ _ _ (by omega)).trans (by rw [el] at hi; rw [getD_take _ _ _ hi]; exact hL.2 i (by omega)))⟩, (zput_i _ _ _ _ _ (by decide)).trans ((zput_s _ _ _ _).trans (zb_f (fun q => q (by omega))))⟩
  · have h15 := zb_0.mp h15
    exfalso; omega
set_option maxRecDepth 20000 in
set_option maxHeartbeats 2000000 in
theorem sX8_putNumber_2 {l : Launch} {w : zW} (hfl : l.stackTraces = false) {σ : zS} {x : Int} {L : List Int} (hz : zOK σ) (hx : 0 ≤ x ∧ x < 100) (hL : Out σ L) (hl : L.length ≤ 129) : Sp l w mX8_putNumber 1 0 [zf 8 259, zi x] σ (zqv (none) (fun τ => zOK τ ∧ zSame (fun q => 259 ≤ q ∧ q ≤ 260) σ τ ∧ Out τ (L ++ dgL x))) := by
  obtain ⟨Q, hQ⟩ : ∃ Q : zQ, Q = (zqv (none) (fun τ => zOK τ ∧ zSame (fun q => 259 ≤ q ∧ q ≤ 260) σ τ ∧ Out τ (L ++ dgL x))) := ⟨_, rfl⟩
  rw [← hQ]
  refine zx_enter hfl (by decide) rfl 1 rfl ?_
  show zX l w mX8_putNumber (zMQ w 1 0 Q) 0 [zf 8 259, zi x, zu] [] 0 σ
  have hx2 : zr x := by unfold zr; omega
  refine zx_sipush dX8_putNumber_0 rfl ?_
  refine zy_istoreN [zf 8 259, zi x, zi 1000] dX8_putNumber_3 rfl (Nat.le_of_ble_eq_true rfl) (Nat.le_of_ble_eq_true rfl) rfl rfl ?_
  have L4 : ∀ (N : Nat) (τ : zS) (j : Int) (i : Nat) (M : List Int), (zOK τ) → ((i = 4 ∧ j = 1000 ∧ M = L) ∨ (i = 3 ∧ j = 100 ∧ M = L ++ (if 1000 ≤ x then [48 + x / 1000 % 10] else [])) ∨ (i = 2 ∧ j = 10 ∧ M = L ++ ((if 1000 ≤ x then [48 + x / 1000 % 10] else []) ++ (if 100 ≤ x then [48 + x / 100 % 10] else []))) ∨ (i = 1 ∧ j = 1 ∧ M = L ++ ((if 1000 ≤ x then [48 + x / 1000 % 10] else []) ++ (if 100 ≤ x then [48 + x / 100 % 10] else []) ++ (if 10 ≤ x then [48 + x / 10 % 10] else []))) ∨ (i = 0 ∧ j = 0 ∧ M = L ++ dgL x)) → (zSame (fun q => 259 ≤ q ∧ q ≤ 260) σ τ) → (Out τ M ∧ M.length + min i 2 ≤ L.length + 2) → (i + 1) < N → zX l w mX8_putNumber (zMQ w 1 0 Q) 4 [zf 8 259, zi x, zi j] [] 0 τ := by
    intro N
    induction N with
    | zero => intro τ j i M _ _ _ _ _; exact absurd (by assumption) (Nat.not_lt_zero _)
    | succ N ih4 =>
      intro τ j i M hz hj h1 hM hN
      refine zx_iloadN dX8_putNumber_4 rfl rfl ?_
      refine zx_if_le (tgt := 39) (by first | exact hz _ _ | assumption | exact zr_b _ | exact zcmp_r _ _ | (unfold zr at *; omega)) dX8_putNumber_5 (by decide) (fun h5 => ?_) (fun h5 => ?_)
      · refine zx_vret rfl dX8_putNumber_39 ?_
        rw [hQ]
        refine ⟨rfl, ?_⟩
        refine ⟨hz, h1, ?_⟩
        rcases hj with ⟨rfl, rfl, -⟩ | ⟨rfl, rfl, -⟩ | ⟨rfl, rfl, -⟩ | ⟨rfl, rfl, -⟩ | ⟨rfl, rfl, hj⟩
        · exfalso; omega
        · exfalso; omega
        · exfalso; omega
        · exfalso; omega
        · rw [← hj]; exact hM.1
      · refine zx_iloadN dX8_putNumber_8 rfl rfl ?_
        refine zx_iloadN dX8_putNumber_9 rfl rfl ?_
        refine zx_icmp_ge (tgt := 18) (by first | exact hz _ _ | assumption | exact zr_b _ | exact zcmp_r _ _ | (unfold zr at *; omega)) (by first | exact hz _ _ | assumption | exact zr_b _ | exact zcmp_r _ _ | (unfold zr at *; omega)) dX8_putNumber_10 (by decide) (fun h10 => ?_) (fun h10 => ?_)
        · refine zx_aloadN dX8_putNumber_18 rfl rfl ?_
          refine zx_bipush dX8_putNumber_19 rfl ?_
          refine zx_iloadN dX8_putNumber_21 rfl rfl ?_
          refine zx_iloadN dX8_putNumber_22 rfl rfl ?_
          refine zx_idiv (by omega) (by omega) (by omega) (by omega) dX8_putNumber_23 ?_
          refine zy_top (b := x / j) (rfl) ?_
          have hd0 : 0 ≤ x / j ∧ x / j < 10000 := by rcases hj with ⟨-, rfl, -⟩ | ⟨-, rfl, -⟩ | ⟨-, rfl, -⟩ | ⟨-, rfl, -⟩ | ⟨-, rfl, -⟩ <;> omega
          refine zx_bipush dX8_putNumber_24 rfl ?_
          refine zx_irem (by omega) (by omega) (by omega) (by omega) dX8_putNumber_26 ?_
          refine zx_iadd dX8_putNumber_27 ?_
          have hd : 0 ≤ x / j ∧ x / j < 10000 := by rcases hj with ⟨-, rfl, -⟩ | ⟨-, rfl, -⟩ | ⟨-, rfl, -⟩ | ⟨-, rfl, -⟩ | ⟨-, rfl, -⟩ <;> omega
          refine zy_cvvR [zi (48 + ((x / j) % 10))] (sX8_put (L := M) hfl hz (by first | assumption | omega) hM.1 (by first | assumption | omega)) dX8_putNumber_28 (by decide) rfl cw_RX8_19 okX8_put rfl (Nat.le_of_ble_eq_true rfl) ⟨Nat.le_of_ble_eq_true rfl, Nat.le_of_ble_eq_true rfl, Nat.le_of_ble_eq_true rfl, Nat.le_of_ble_eq_true rfl⟩ (fun τ28 hr28 => ?_)
          have hz28 : zOK τ28 := hr28.1
          refine zx_iloadN dX8_putNumber_31 rfl rfl ?_
          refine zx_bipush dX8_putNumber_32 rfl ?_
          refine zx_idiv (by omega) (by omega) (by omega) (by omega) dX8_putNumber_34 ?_
          refine zy_istoreN [zf 8 259, zi x, zi (j / 10)] dX8_putNumber_35 rfl (Nat.le_of_ble_eq_true rfl) (Nat.le_of_ble_eq_true rfl) rfl rfl ?_
          refine zx_goto (tgt := 4) dX8_putNumber_36 (by decide) ?_
          exact ih4 τ28 (j / 10) (i - 1) (M ++ [48 + x / j % 10]) hz28 (by
        rcases hj with ⟨rfl, rfl, rfl⟩ | ⟨rfl, rfl, rfl⟩ | ⟨rfl, rfl, rfl⟩ | ⟨rfl, rfl, rfl⟩ | ⟨rfl, rfl, rfl⟩
        · refine Or.inr (Or.inl ⟨rfl, by omega, ?_⟩); first | (rw [if_pos (by omega)]) | (rw [if_neg (by omega)]; simp)
        · refine Or.inr (Or.inr (Or.inl ⟨rfl, by omega, ?_⟩)); first | (rw [if_pos (by omega : 100 ≤ x)]; simp) | (rw [if_neg (by omega : ¬ 100 ≤ x)]; simp)
        · refine Or.inr (Or.inr (Or.inr (Or.inl ⟨rfl, by omega, ?_⟩))); first | (rw [if_pos (by omega : 10 ≤ x)]; simp) | (rw [if_neg (by omega : ¬ 10 ≤ x)]; simp)
        · refine Or.inr (Or.inr (Or.inr (Or.inr ⟨rfl, by omega, ?_⟩))); first | (exfalso; omega) | (unfold dgL; simp [Int.ediv_one])
        · exfalso; omega) (by first | exact h1 | exact (zSame_tr h1 hr28.2.1 (fun q hq => by first | omega | (dsimp only at hq ⊢; omega)))) (by first | exact ⟨hr28.2.2, by rw [List.length_append, List.length_singleton]; omega⟩ | exact ⟨hM.1, by omega⟩) (by omega)
        · refine zx_iloadN dX8_putNumber_13 rfl rfl ?_
          refine zx_iconst dX8_putNumber_14 ?_
          refine zx_icmp_ne (tgt := 31) (by first | exact hz _ _ | assumption | exact zr_b _ | exact zcmp_r _ _ | (unfold zr at *; omega)) (by first | exact hz _ _ | assumption | exact zr_b _ | exact zcmp_r _ _ | (unfold zr at *; omega)) dX8_putNumber_15 (by decide) (fun h15 => ?_) (fun h15 => ?_)
          · refine zx_iloadN dX8_putNumber_31 rfl rfl ?_
            refine zx_bipush dX8_putNumber_32 rfl ?_
            refine zx_idiv (by omega) (by omega) (by omega) (by omega) dX8_putNumber_34 ?_
            refine zy_istoreN [zf 8 259, zi x, zi (j / 10)] dX8_putNumber_35 rfl (Nat.le_of_ble_eq_true rfl) (Nat.le_of_ble_eq_true rfl) rfl rfl ?_
            refine zx_goto (tgt := 4) dX8_putNumber_36 (by decide) ?_
            exact ih4 τ (j / 10) (i - 1) M hz (by
        rcases hj with ⟨rfl, rfl, rfl⟩ | ⟨rfl, rfl, rfl⟩ | ⟨rfl, rfl, rfl⟩ | ⟨rfl, rfl, rfl⟩ | ⟨rfl, rfl, rfl⟩
        · refine Or.inr (Or.inl ⟨rfl, by omega, ?_⟩); first | (rw [if_pos (by omega)]) | (rw [if_neg (by omega)]; simp)
        · refine Or.inr (Or.inr (Or.inl ⟨rfl, by omega, ?_⟩)); first | (rw [if_pos (by omega : 100 ≤ x)]; simp) | (rw [if_neg (by omega : ¬ 100 ≤ x)]; simp)
        · refine Or.inr (Or.inr (Or.inr (Or.inl ⟨rfl, by omega, ?_⟩))); first | (rw [if_pos (by omega : 10 ≤ x)]; simp) | (rw [if_neg (by omega : ¬ 10 ≤ x)]; simp)
        · refine Or.inr (Or.inr (Or.inr (Or.inr ⟨rfl, by omega, ?_⟩))); first | (exfalso; omega) | (unfold dgL; simp [Int.ediv_one])
        · exfalso; omega) (by first | exact h1 | exact (zSame_tr h1 hr28.2.1 (fun q hq => by first | omega | (dsimp only at hq ⊢; omega)))) (by first | exact ⟨hr28.2.2, by rw [List.length_append, List.length_singleton]; omega⟩ | exact ⟨hM.1, by omega⟩) (by omega)
          · refine zx_aloadN dX8_putNumber_18 rfl rfl ?_
            refine zx_bipush dX8_putNumber_19 rfl ?_
            refine zx_iloadN dX8_putNumber_21 rfl rfl ?_
            refine zx_iloadN dX8_putNumber_22 rfl rfl ?_
            refine zx_idiv (by omega) (by omega) (by omega) (by omega) dX8_putNumber_23 ?_
            refine zy_top (b := x / j) (rfl) ?_
            have hd0 : 0 ≤ x / j ∧ x / j < 10000 := by rcases hj with ⟨-, rfl, -⟩ | ⟨-, rfl, -⟩ | ⟨-, rfl, -⟩ | ⟨-, rfl, -⟩ | ⟨-, rfl, -⟩ <;> omega
            refine zx_bipush dX8_putNumber_24 rfl ?_
            refine zx_irem (by omega) (by omega) (by omega) (by omega) dX8_putNumber_26 ?_
            refine zx_iadd dX8_putNumber_27 ?_
            have hd : 0 ≤ x / j ∧ x / j < 10000 := by rcases hj with ⟨-, rfl, -⟩ | ⟨-, rfl, -⟩ | ⟨-, rfl, -⟩ | ⟨-, rfl, -⟩ | ⟨-, rfl, -⟩ <;> omega
            refine zy_cvvR [zi (48 + ((x / j) % 10))] (sX8_put (L := M) hfl hz (by first | assumption | omega) hM.1 (by first | assumption | omega)) dX8_putNumber_28 (by decide) rfl cw_RX8_19 okX8_put rfl (Nat.le_of_ble_eq_true rfl) ⟨Nat.le_of_ble_eq_true rfl, Nat.le_of_ble_eq_true rfl, Nat.le_of_ble_eq_true rfl, Nat.le_of_ble_eq_true rfl⟩ (fun τ28 hr28 => ?_)
            have hz28 : zOK τ28 := hr28.1
            refine zx_iloadN dX8_putNumber_31 rfl rfl ?_
            refine zx_bipush dX8_putNumber_32 rfl ?_
            refine zx_idiv (by omega) (by omega) (by omega) (by omega) dX8_putNumber_34 ?_
            refine zy_istoreN [zf 8 259, zi x, zi (j / 10)] dX8_putNumber_35 rfl (Nat.le_of_ble_eq_true rfl) (Nat.le_of_ble_eq_true rfl) rfl rfl ?_
            refine zx_goto (tgt := 4) dX8_putNumber_36 (by decide) ?_
            exact ih4 τ28 (j / 10) (i - 1) (M ++ [48 + x / j % 10]) hz28 (by
        rcases hj with ⟨rfl, rfl, rfl⟩ | ⟨rfl, rfl, rfl⟩ | ⟨rfl, rfl, rfl⟩ | ⟨rfl, rfl, rfl⟩ | ⟨rfl, rfl, rfl⟩
        · refine Or.inr (Or.inl ⟨rfl, by omega, ?_⟩); first | (rw [if_pos (by omega)]) | (rw [if_neg (by omega)]; simp)
        · refine Or.inr (Or.inr (Or.inl ⟨rfl, by omega, ?_⟩)); first | (rw [if_pos (by omega : 100 ≤ x)]; simp) | (rw [if_neg (by omega : ¬ 100 ≤ x)]; simp)
        · refine Or.inr (Or.inr (Or.inr (Or.inl ⟨rfl, by omega, ?_⟩))); first | (rw [if_pos (by omega : 10 ≤ x)]; simp) | (rw [if_neg (by omega : ¬ 10 ≤ x)]; simp)
        · refine Or.inr (Or.inr (Or.inr (Or.inr ⟨rfl, by omega, ?_⟩))); first | (exfalso; omega) | (unfold dgL; simp [Int.ediv_one])
        · exfalso; omega) (by first | exact h1 | exact (zSame_tr h1 hr28.2.1 (fun q hq => by first | omega | (dsimp only at hq ⊢; omega)))) (by first | exact ⟨hr28.2.2, by rw [List.length_append, List.length_singleton]; omega⟩ | exact ⟨hM.1, by omega⟩) (by omega)
  exact L4 _ σ 1000 4 L hz (Or.inl ⟨rfl, rfl, rfl⟩) (zSame_rf _ _) ⟨hL, by omega⟩ (Nat.lt_succ_self _)
set_option maxRecDepth 20000 in
set_option maxHeartbeats 2000000 in
theorem sX9_outputByte {l : Launch} {w : zW} (hfl : l.stackTraces = false) {σ : zS} {x : Int} {L : List Int} (hz : zOK σ) (hx : zr x) (hL : Out σ L) (hl : L.length ≤ 131) : Sp l w mX9_outputByte 1 0 [zf 9 0, zi x] σ (zret (zi (if 0 ≤ x ∧ x < L.length then L.getD x.toNat 0 else -1)) σ) := by
  obtain ⟨Q, hQ⟩ : ∃ Q : zQ, Q = (zret (zi (if 0 ≤ x ∧ x < L.length then L.getD x.toNat 0 else -1)) σ) := ⟨_, rfl⟩
  rw [← hQ]
  refine zx_enter hfl (by decide) rfl 0 rfl ?_
  show zX l w mX9_outputByte (zMQ w 1 0 Q) 0 [zf 9 0, zi x] [] 0 σ
  have hL1 := hL.1
  refine zx_aloadN dX9_outputByte_0 rfl rfl ?_
  refine zy_getR (q' := 259) fl_RX9_61 rfl dX9_outputByte_1 rfl ?_
  refine zx_iloadN dX9_outputByte_4 rfl rfl ?_
  refine zy_cv [zi x] (sX8_byteAt  hfl hz (by first | exact hz _ _ | assumption | exact zr_b _ | exact zcmp_r _ _ | (unfold zr at *; omega)) (by first | assumption | omega)) dX9_outputByte_5 (by decide) rfl cw_RX9_348 okX8_byteAt rfl (Nat.le_of_ble_eq_true rfl) ⟨Nat.le_of_ble_eq_true rfl, Nat.le_of_ble_eq_true rfl, Nat.le_of_ble_eq_true rfl, Nat.le_of_ble_eq_true rfl⟩ ?_
  refine zx_iret rfl rfl dX9_outputByte_8 ?_
  rw [hQ]
  refine ⟨congrArg (fun z : Int => (Sum.inl (some (zi z)) : Option zV ⊕ String)) ?_, by first | rfl | (exfalso; omega)⟩
  rw [hL1]
  by_cases q : 0 ≤ x ∧ x < L.length
  · rw [if_pos q, if_pos q]; exact hL.2 _ (by omega)
  · rw [if_neg q, if_neg q]
set_option maxRecDepth 20000 in
set_option maxHeartbeats 2000000 in
theorem sX10_writes {l : Launch} {w : zW} (hfl : l.stackTraces = false) {σ : zS} {x : Int} {L : List Int} (hz : zOK σ) (hx : zr x) (hL : OutM σ L) (hl : L.length < 160) : Sp l w mX10_writes 0 0 [zf 10 261, zi x] σ (zqv (none) (fun τ => zOK τ ∧ mfr σ τ (fun k => k = 271) (fun i => i = 27) ∧ OutM τ (L ++ [x]))) := by
  obtain ⟨Q, hQ⟩ : ∃ Q : zQ, Q = (zqv (none) (fun τ => zOK τ ∧ mfr σ τ (fun k => k = 271) (fun i => i = 27) ∧ OutM τ (L ++ [x]))) := ⟨_, rfl⟩
  rw [← hQ]
  refine zx_enter hfl (by decide) rfl 0 rfl ?_
  show zX l w mX10_writes (zMQ w 0 0 Q) 0 [zf 10 261, zi x] [] 0 σ
  have hL1 := hL.1
  refine zx_aloadN dX10_writes_0 rfl rfl ?_
  refine zy_getR (q' := 271) fl_RX10_41 rfl dX10_writes_1 rfl ?_
  refine zx_aloadN dX10_writes_4 rfl rfl ?_
  refine zy_getI fl_RX10_470 rfl dX10_writes_5 rfl ?_
  refine zx_iloadN dX10_writes_8 rfl rfl ?_
  refine zy_iast (i := (σ.1 261 27).toNat) rfl (by decide) (by decide) dX10_writes_9 (by omega) (by omega) rfl ?_
  refine zx_aloadN dX10_writes_10 rfl rfl ?_
  refine zx_dup rfl dX10_writes_11 ?_
  refine zy_getI (v := σ.1 261 27) fl_RX10_470 rfl dX10_writes_12 (zput_k _ _ _ _ _ (by omega)) ?_
  refine zx_iconst dX10_writes_15 ?_
  refine zx_iadd dX10_writes_16 ?_
  refine zx_putI fl_RX10_470 rfl (Or.inl fp_10_27) dX10_writes_17 ?_
  refine zx_vret rfl dX10_writes_20 ?_
  rw [hQ]
  refine ⟨rfl, ?_⟩
  exact ⟨(zOK_put (zOK_put hz (by first | exact hz _ _ | assumption | exact zr_b _ | exact zcmp_r _ _ | (unfold zr at *; omega))) (by first | exact hz _ _ | assumption | exact zr_b _ | exact zcmp_r _ _ | (unfold zr at *; omega))), mfr_mo (mfr_put261 (mfr_put (A := fun k => k = 271) (F := fun i => i = 27) (mfr_rf _ _ _) rfl (by decide))) (fun k q => q) (fun i q => q.elim id id), OutM_put hL⟩
set_option maxRecDepth 20000 in
set_option maxHeartbeats 2000000 in
theorem sX10_writesNumber {l : Launch} {w : zW} (hfl : l.stackTraces = false) {σ : zS} {x : Int} {L : List Int} (hz : zOK σ) (hx : 0 ≤ x ∧ x < 10000) (hL : OutM σ L) (hl : L.length + 4 ≤ 160) : Sp l w mX10_writesNumber 1 0 [zf 10 261, zi x] σ (zqv (none) (fun τ => zOK τ ∧ mfr σ τ (fun k => k = 271) (fun i => i = 27) ∧ OutM τ (L ++ dgL x))) := by
  obtain ⟨Q, hQ⟩ : ∃ Q : zQ, Q = (zqv (none) (fun τ => zOK τ ∧ mfr σ τ (fun k => k = 271) (fun i => i = 27) ∧ OutM τ (L ++ dgL x))) := ⟨_, rfl⟩
  rw [← hQ]
  refine zx_enter hfl (by decide) rfl 1 rfl ?_
  show zX l w mX10_writesNumber (zMQ w 1 0 Q) 0 [zf 10 261, zi x, zu] [] 0 σ
  have hx2 : zr x := by unfold zr; omega
  refine zx_iconst dX10_writesNumber_0 ?_
  refine zy_istoreN [zf 10 261, zi x, zi 1] dX10_writesNumber_1 rfl (Nat.le_of_ble_eq_true rfl) (Nat.le_of_ble_eq_true rfl) rfl rfl ?_
  have L2 : ∀ (N : Nat) (j : Int), (((j = 1 ∧ x < 10000) ∨ (j = 10 ∧ 10 ≤ x) ∨ (j = 100 ∧ 100 ≤ x) ∨ (j = 1000 ∧ 1000 ≤ x))) → ((2000 - j).toNat) < N → zX l w mX10_writesNumber (zMQ w 1 0 Q) 2 [zf 10 261, zi x, zi j] [] 0 σ := by
    intro N
    induction N with
    | zero => intro j _ _; exact absurd (by assumption) (Nat.not_lt_zero _)
    | succ N ih2 =>
      intro j hj hN
      have hjb : 1 ≤ j ∧ j ≤ 1000 := by omega
      have hzj : zr j := by unfold zr; omega
      have hdv : 0 ≤ x / j ∧ x / j < 10000 := by rcases hj with ⟨rfl, -⟩ | ⟨rfl, -⟩ | ⟨rfl, -⟩ | ⟨rfl, -⟩ <;> omega
      have hdz : zr (x / j) := by unfold zr; omega
      refine zx_iloadN dX10_writesNumber_2 rfl rfl ?_
      refine zx_iloadN dX10_writesNumber_3 rfl rfl ?_
      refine zx_idiv (by omega) (by omega) (by omega) (by omega) dX10_writesNumber_4 ?_
      refine zx_bipush dX10_writesNumber_5 rfl ?_
      refine zx_icmp_le (tgt := 18) (by first | exact hz _ _ | assumption | exact zr_b _ | exact zcmp_r _ _ | (unfold zr at *; omega)) (by first | exact hz _ _ | assumption | exact zr_b _ | exact zcmp_r _ _ | (unfold zr at *; omega)) dX10_writesNumber_7 (by decide) (fun h7 => ?_) (fun h7 => ?_)
      · have L18 : ∀ (N : Nat) (τ : zS) (j : Int) (M : List Int), (zOK τ) → ((j = 1000 ∧ 1000 ≤ x ∧ M = L) ∨ (j = 100 ∧ 100 ≤ x ∧ M = L ++ (if 1000 ≤ x then [48 + x / 1000 % 10] else [])) ∨ (j = 10 ∧ 10 ≤ x ∧ M = L ++ ((if 1000 ≤ x then [48 + x / 1000 % 10] else []) ++ (if 100 ≤ x then [48 + x / 100 % 10] else []))) ∨ (j = 1 ∧ M = L ++ ((if 1000 ≤ x then [48 + x / 1000 % 10] else []) ++ (if 100 ≤ x then [48 + x / 100 % 10] else []) ++ (if 10 ≤ x then [48 + x / 10 % 10] else []))) ∨ (j = 0 ∧ M = L ++ dgL x)) → (mfr σ τ (fun k => k = 271) (fun i => i = 27)) → (OutM τ M ∧ (M.length ≤ L.length + 3 ∨ j = 0)) → ((j + 1).toNat) < N → zX l w mX10_writesNumber (zMQ w 1 0 Q) 18 [zf 10 261, zi x, zi j] [] 0 τ := by
          intro N
          induction N with
          | zero => intro τ j M _ _ _ _ _; exact absurd (by assumption) (Nat.not_lt_zero _)
          | succ N ih18 =>
            intro τ j M hz hj h1 hM hN
            have hjb : 0 ≤ j ∧ j ≤ 1000 := by rcases hj with ⟨rfl, -⟩ | ⟨rfl, -⟩ | ⟨rfl, -⟩ | ⟨rfl, -⟩ | ⟨rfl, -⟩ <;> omega
            have hzj : zr j := by unfold zr; omega
            have hdv : 0 ≤ x / j ∧ x / j < 10000 := by rcases hj with ⟨rfl, -⟩ | ⟨rfl, -⟩ | ⟨rfl, -⟩ | ⟨rfl, -⟩ | ⟨rfl, -⟩ <;> omega
            have hj10 : 0 < j → j / 10 < j := fun q => by omega
            refine zx_iloadN dX10_writesNumber_18 rfl rfl ?_
            refine zx_if_le (tgt := 43) (by first | exact hz _ _ | assumption | exact zr_b _ | exact zcmp_r _ _ | (unfold zr at *; omega)) dX10_writesNumber_19 (by decide) (fun h19 => ?_) (fun h19 => ?_)
            · refine zx_vret rfl dX10_writesNumber_43 ?_
              rw [hQ]
              refine ⟨rfl, ?_⟩
              refine ⟨hz, h1, ?_⟩
              rcases hj with ⟨rfl, -⟩ | ⟨rfl, -⟩ | ⟨rfl, -⟩ | ⟨rfl, -⟩ | ⟨-, rfl⟩
              · exfalso; omega
              · exfalso; omega
              · exfalso; omega
              · exfalso; omega
              · exact hM.1
            · refine zx_aloadN dX10_writesNumber_22 rfl rfl ?_
              refine zx_bipush dX10_writesNumber_23 rfl ?_
              refine zx_iloadN dX10_writesNumber_25 rfl rfl ?_
              refine zx_iloadN dX10_writesNumber_26 rfl rfl ?_
              refine zx_idiv (by omega) (by omega) (by omega) (by omega) dX10_writesNumber_27 ?_
              refine zx_bipush dX10_writesNumber_28 rfl ?_
              refine zx_irem (by omega) (by omega) (by omega) (by omega) dX10_writesNumber_30 ?_
              refine zx_iadd dX10_writesNumber_31 ?_
              refine zy_cvvR [zi (48 + ((x / j) % 10))] (sX10_writes (L := M) hfl hz (by first | exact hz _ _ | assumption | exact zr_b _ | exact zcmp_r _ _ | (unfold zr at *; omega)) hM.1 (by rcases hM.2 with q | q <;> omega)) dX10_writesNumber_32 (by decide) rfl cw_RX10_473 okX10_writes rfl (Nat.le_of_ble_eq_true rfl) ⟨Nat.le_of_ble_eq_true rfl, Nat.le_of_ble_eq_true rfl, Nat.le_of_ble_eq_true rfl, Nat.le_of_ble_eq_true rfl⟩ (fun τ32 hr32 => ?_)
              have hz32 : zOK τ32 := hr32.1
              refine zx_iloadN dX10_writesNumber_35 rfl rfl ?_
              refine zx_bipush dX10_writesNumber_36 rfl ?_
              refine zx_idiv (by omega) (by omega) (by omega) (by omega) dX10_writesNumber_38 ?_
              refine zy_istoreN [zf 10 261, zi x, zi (j / 10)] dX10_writesNumber_39 rfl (Nat.le_of_ble_eq_true rfl) (Nat.le_of_ble_eq_true rfl) rfl rfl ?_
              refine zx_goto (tgt := 18) dX10_writesNumber_40 (by decide) ?_
              exact ih18 τ32 (j / 10) (M ++ [48 + x / j % 10]) hz32 (by
        rcases hj with ⟨rfl, q, rfl⟩ | ⟨rfl, q, rfl⟩ | ⟨rfl, q, rfl⟩ | ⟨rfl, rfl⟩ | ⟨rfl, rfl⟩
        · refine Or.inr (Or.inl ⟨by decide, by omega, ?_⟩); rw [if_pos q]
        · refine Or.inr (Or.inr (Or.inl ⟨by decide, by omega, ?_⟩)); rw [if_pos q]; simp
        · refine Or.inr (Or.inr (Or.inr (Or.inl ⟨by decide, ?_⟩))); rw [if_pos q]; simp
        · refine Or.inr (Or.inr (Or.inr (Or.inr ⟨by decide, ?_⟩))); unfold dgL; simp [Int.ediv_one]
        · exfalso; omega) (mfr_tr h1 hr32.2.1 (fun k q => q.elim id id) (fun i q => q.elim id id)) (⟨hr32.2.2, by
        rcases hj with ⟨rfl, q, rfl⟩ | ⟨rfl, q, rfl⟩ | ⟨rfl, q, rfl⟩ | ⟨rfl, rfl⟩ | ⟨rfl, rfl⟩
        · exact Or.inl (by simp only [List.length_append, List.length_singleton]; omega)
        · refine Or.inl ?_; simp only [List.length_append, List.length_singleton]; split <;> simp
        · refine Or.inl ?_; simp only [List.length_append, List.length_singleton]; split <;> split <;> simp
        · exact Or.inr (by decide)
        · exfalso; omega⟩) (by omega)
        exact L18 _ σ j L hz (by
        rcases hj with ⟨rfl, -⟩ | ⟨rfl, q⟩ | ⟨rfl, q⟩ | ⟨rfl, q⟩
        · refine Or.inr (Or.inr (Or.inr (Or.inl ⟨rfl, ?_⟩))); rw [if_neg (by omega), if_neg (by omega), if_neg (by omega)]; simp
        · refine Or.inr (Or.inr (Or.inl ⟨rfl, q, ?_⟩)); rw [if_neg (by omega), if_neg (by omega)]; simp
        · refine Or.inr (Or.inl ⟨rfl, q, ?_⟩); rw [if_neg (by omega)]; simp
        · exact Or.inl ⟨rfl, q, rfl⟩) (mfr_rf _ _ _) ⟨hL, Or.inl (by omega)⟩ (Nat.lt_succ_self _)
      · refine zx_iloadN dX10_writesNumber_10 rfl rfl ?_
        refine zx_bipush dX10_writesNumber_11 rfl ?_
        refine zx_imul dX10_writesNumber_13 ?_
        refine zy_istoreN [zf 10 261, zi x, zi (j * 10)] dX10_writesNumber_14 rfl (Nat.le_of_ble_eq_true rfl) (Nat.le_of_ble_eq_true rfl) rfl rfl ?_
        refine zx_goto (tgt := 2) dX10_writesNumber_15 (by decide) ?_
        exact ih2 (j * 10) (by
        rcases hj with ⟨rfl, -⟩ | ⟨rfl, -⟩ | ⟨rfl, -⟩ | ⟨rfl, -⟩
        · exact Or.inr (Or.inl ⟨by decide, by omega⟩)
        · exact Or.inr (Or.inr (Or.inl ⟨by decide, by omega⟩))
        · exact Or.inr (Or.inr (Or.inr ⟨by decide, by omega⟩))
        · exfalso; omega) (by omega)
  exact L2 _ 1 (Or.inl ⟨rfl, hx.2⟩) (Nat.lt_succ_self _)
set_option maxRecDepth 20000 in
set_option maxHeartbeats 2000000 in
theorem sX10_ofPrinter_n {l : Launch} {w : zW} (hfl : l.stackTraces = false) {σ : zS} {p o : Nat} (hz : zOK σ) (hp : p < 8) (ho : o < 12) : Sp l w mX10_ofPrinter 0 0 [zf 10 261, zi ((p : Nat) : Int), zi ((o : Nat) : Int)] σ (zret (zi (σ.1 262 (4 + 12 * p + o))) σ) := by
  obtain ⟨Q, hQ⟩ : ∃ Q : zQ, Q = (zret (zi (σ.1 262 (4 + 12 * p + o))) σ) := ⟨_, rfl⟩
  rw [← hQ]
  refine zx_enter hfl (by decide) rfl 0 rfl ?_
  show zX l w mX10_ofPrinter (zMQ w 0 0 Q) 0 [zf 10 261, zi ((p : Nat) : Int), zi ((o : Nat) : Int)] [] 0 σ
  refine zx_aloadN dX10_ofPrinter_0 rfl rfl ?_
  refine zy_getR (q' := 262) fl_RX10_7 rfl dX10_ofPrinter_1 rfl ?_
  refine zx_iconst dX10_ofPrinter_4 ?_
  refine zx_bipush dX10_ofPrinter_5 rfl ?_
  refine zx_iloadN dX10_ofPrinter_7 rfl rfl ?_
  refine zx_imul dX10_ofPrinter_8 ?_
  refine zx_iadd dX10_ofPrinter_9 ?_
  refine zx_iloadN dX10_ofPrinter_10 rfl rfl ?_
  refine zx_iadd dX10_ofPrinter_11 ?_
  refine zy_top (b := ((4 + 12 * p + o : Nat) : Int)) (by omega) ?_
  refine zy_iald (v := σ.1 262 (4 + 12 * p + o)) rfl (by decide) (by decide) dX10_ofPrinter_12 (by omega) (by omega) rfl ?_
  refine zx_iret rfl rfl dX10_ofPrinter_13 ?_
  rw [hQ]
  refine ⟨congrArg (fun z : Int => (Sum.inl (some (zi z)) : Option zV ⊕ String)) ?_, by first | rfl | (exfalso; omega)⟩
  rfl
set_option maxRecDepth 20000 in
set_option maxHeartbeats 2000000 in
theorem sX10_outputByte {l : Launch} {w : zW} (hfl : l.stackTraces = false) {σ : zS} {x : Int} {L : List Int} (hz : zOK σ) (hx : zr x) (hL : OutM σ L) (hl : L.length ≤ 131) : Sp l w mX10_outputByte 1 0 [zf 10 261, zi x] σ (zqv (some (zi (if 0 ≤ x ∧ x < L.length then L.getD x.toNat 0 else -1))) (fun τ => zOK τ ∧ mfr σ τ (fun _ => False) (fun i => i = 6) ∧ τ.1 261 6 = 0)) := by
  obtain ⟨Q, hQ⟩ : ∃ Q : zQ, Q = (zqv (some (zi (if 0 ≤ x ∧ x < L.length then L.getD x.toNat 0 else -1))) (fun τ => zOK τ ∧ mfr σ τ (fun _ => False) (fun i => i = 6) ∧ τ.1 261 6 = 0)) := ⟨_, rfl⟩
  rw [← hQ]
  refine zx_enter hfl (by decide) rfl 0 rfl ?_
  show zX l w mX10_outputByte (zMQ w 1 0 Q) 0 [zf 10 261, zi x] [] 0 σ
  have hL1 := hL.1
  refine zx_aloadN dX10_outputByte_0 rfl rfl ?_
  refine zx_iconst dX10_outputByte_1 ?_
  refine zx_putI fl_RX10_67 rfl (Or.inl fp_10_6) dX10_outputByte_2 ?_
  refine zx_iloadN dX10_outputByte_5 rfl rfl ?_
  refine zx_i2l (by first | exact hz _ _ | assumption | exact zr_b _ | exact zcmp_r _ _ | (unfold zr at *; omega)) dX10_outputByte_6 ?_
  refine zx_lconst (a := 0) dX10_outputByte_7 rfl ?_
  refine zx_aloadN dX10_outputByte_8 rfl rfl ?_
  refine zy_getI (v := σ.1 261 27) fl_RX10_470 rfl dX10_outputByte_9 (zput_i _ _ _ _ _ (by omega)) ?_
  refine zx_iconst dX10_outputByte_12 ?_
  refine zx_isub dX10_outputByte_13 ?_
  refine zx_i2l (by first | exact hz _ _ | assumption | exact zr_b _ | exact zcmp_r _ _ | (unfold zr at *; omega)) dX10_outputByte_14 ?_
  refine zy_cs [zl x, zl 0, zl ((σ.1 261 27) - 1)] (sX10_in  hfl (zOK_put hz (by unfold zr; omega)) (by first | exact hz _ _ | assumption | exact zr_b _ | exact zcmp_r _ _ | (unfold zr at *; omega)) (by first | exact hz _ _ | assumption | exact zr_b _ | exact zcmp_r _ _ | (unfold zr at *; omega)) (by first | exact hz _ _ | assumption | exact zr_b _ | exact zcmp_r _ _ | (unfold zr at *; omega))) dX10_outputByte_15 cw_RX10_74 okX10_in rfl (Nat.le_of_ble_eq_true rfl) ⟨Nat.le_of_ble_eq_true rfl, Nat.le_of_ble_eq_true rfl, Nat.le_of_ble_eq_true rfl, Nat.le_of_ble_eq_true rfl⟩ ?_
  refine zx_if_eq (tgt := 30) (by first | exact hz _ _ | assumption | exact zr_b _ | exact zcmp_r _ _ | (unfold zr at *; omega)) dX10_outputByte_18 (by decide) (fun h18 => ?_) (fun h18 => ?_)
  · have h18 := zb_0.mp h18
    refine zx_iconst dX10_outputByte_30 ?_
    refine zx_iret rfl rfl dX10_outputByte_31 ?_
    rw [hQ]
    refine ⟨congrArg (fun z : Int => (Sum.inl (some (zi z)) : Option zV ⊕ String)) ?_, ?_⟩
    · first
      | (rw [if_pos (by omega)]; exact hL.2 _ (by omega))
      | (rw [if_neg (by omega)])
    exact ⟨(zOK_put hz (by unfold zr; omega)), mfr_mo (mfr_put261 (mfr_rf σ (fun _ => False) (fun _ => False))) (fun k q => q) (fun i q => by rcases q with q | q; exact absurd q id; exact q), zput_s _ _ _ _⟩
  · have h18 := zb_n.mp h18
    refine zx_aloadN dX10_outputByte_21 rfl rfl ?_
    refine zy_getR (q' := 271) fl_RX10_41 rfl dX10_outputByte_22 rfl ?_
    refine zx_iloadN dX10_outputByte_25 rfl rfl ?_
    refine zy_iald (v := σ.1 271 x.toNat) rfl (by decide) (by decide) dX10_outputByte_26 (by omega) (by omega) (zput_k _ _ _ _ _ (by omega)) ?_
    refine zx_goto (tgt := 31) dX10_outputByte_27 (by decide) ?_
    refine zx_iret rfl rfl dX10_outputByte_31 ?_
    rw [hQ]
    refine ⟨congrArg (fun z : Int => (Sum.inl (some (zi z)) : Option zV ⊕ String)) ?_, ?_⟩
    · first
      | (rw [if_pos (by omega)]; exact hL.2 _ (by omega))
      | (rw [if_neg (by omega)])
    exact ⟨(zOK_put hz (by unfold zr; omega)), mfr_mo (mfr_put261 (mfr_rf σ (fun _ => False) (fun _ => False))) (fun k q => q) (fun i q => by rcases q with q | q; exact absurd q id; exact q), zput_s _ _ _ _⟩
set_option maxRecDepth 20000 in
set_option maxHeartbeats 2000000 in
theorem sX10_formatVerdict {l : Launch} {w : zW} (hfl : l.stackTraces = false) {σ : zS} {D : zBk}  (hz : zOK σ) (hW : WF D) (hR : Rel D (σ.1 262)) (hP1 : 1 ≤ D 1 0) : Sp l w mX10_formatVerdict 11 0 [zf 10 261] σ (zqv (some (zi ((fmL D (D 12 0).toNat).length : Int))) (fun τ => zOK τ ∧ mfr σ τ (fun k => k = 267 ∨ k = 268 ∨ k = 271) (fun i => i = 6 ∨ (9 ≤ i ∧ i ≤ 11) ∨ i = 13 ∨ i = 27) ∧ OutM τ (fmL D (D 12 0).toNat) ∧ τ.1 261 6 = 0)) := by
  obtain ⟨Q, hQ⟩ : ∃ Q : zQ, Q = (zqv (some (zi ((fmL D (D 12 0).toNat).length : Int))) (fun τ => zOK τ ∧ mfr σ τ (fun k => k = 267 ∨ k = 268 ∨ k = 271) (fun i => i = 6 ∨ (9 ≤ i ∧ i ≤ 11) ∨ i = 13 ∨ i = 27) ∧ OutM τ (fmL D (D 12 0).toNat) ∧ τ.1 261 6 = 0)) := ⟨_, rfl⟩
  rw [← hQ]
  refine zx_enter hfl (by decide) rfl 3 rfl ?_
  show zX l w mX10_formatVerdict (zMQ w 11 0 Q) 0 [zf 10 261, zu, zu, zu] [] 0 σ
  have hP : 0 ≤ D 1 0 ∧ D 1 0 ≤ 8 := hW.1.1
  have hM : 0 ≤ D 1 7 ∧ D 1 7 ≤ 8 := hW.1.2.1
  have hE : 0 ≤ D 1 10 ∧ D 1 10 ≤ 12 := hW.1.2.2.1
  have hK : 0 ≤ D 12 0 ∧ D 12 0 ≤ 40 := hW.1.2.2.2
  have r0 : σ.1 262 0 = D 1 0 := hR.1.1
  have r1 : σ.1 262 1 = D 1 7 := hR.1.2.1
  have r2 : σ.1 262 2 = D 1 10 := hR.1.2.2.1
  have r3 : σ.1 262 3 = D 12 0 := hR.1.2.2.2
  have hwl := wP_l (H := Ht D) hW hP1
  have hwb := wS_b hW
  have hyb := wY_b hW hP1
  have hzy : zr (wY D (Ht D)) := by unfold zr; omega
  have hno := (hR.2.1 _ hwl).1
  have hn1 := hno.1
  have hn2 : ∀ k : Nat, (k : Int) < σ.1 262 (4 + 12 * (wP D (Ht D))) → 97 ≤ σ.1 262 (4 + 12 * (wP D (Ht D)) + 1 + k) ∧ σ.1 262 (4 + 12 * (wP D (Ht D)) + 1 + k) ≤ 122 := hno.2.1
  have hw8 : wP D (Ht D) < 8 := by omega
  have hzσ : ∀ k i, zr (σ.1 k i) := fun k i => hz k i
  refine zx_aloadN dX10_formatVerdict_0 rfl rfl ?_
  refine zx_iconst dX10_formatVerdict_1 ?_
  refine zx_putI fl_RX10_67 rfl (Or.inl fp_10_6) dX10_formatVerdict_2 ?_
  refine zx_aloadN dX10_formatVerdict_5 rfl rfl ?_
  refine zx_iconst dX10_formatVerdict_6 ?_
  refine zx_putI fl_RX10_470 rfl (Or.inl fp_10_27) dX10_formatVerdict_7 ?_
  refine zx_aloadN dX10_formatVerdict_10 rfl rfl ?_
  refine zy_cvR [] (sX10_yearOfVerdict (D := D) hfl (zOK_put (zOK_put hz (by unfold zr; omega)) (by unfold zr; omega)) (by first | assumption | omega) (Rel_put (by decide) (Rel_put (by decide) hR)) (by first | assumption | omega)) dX10_formatVerdict_11 (by decide) rfl cw_RX10_166 okX10_yearOfVerdict rfl (Nat.le_of_ble_eq_true rfl) ⟨Nat.le_of_ble_eq_true rfl, Nat.le_of_ble_eq_true rfl, Nat.le_of_ble_eq_true rfl, Nat.le_of_ble_eq_true rfl⟩ (fun τ11 hr11 => ?_)
  have hz11 : zOK τ11 := hr11.1
  refine zy_istoreN [zf 10 261, zi (wY D (Ht D)), zu, zu] dX10_formatVerdict_14 rfl (Nat.le_of_ble_eq_true rfl) (Nat.le_of_ble_eq_true rfl) rfl rfl ?_
  refine zx_iconst dX10_formatVerdict_15 ?_
  refine zy_istoreN [zf 10 261, zi (wY D (Ht D)), zi 0, zu] dX10_formatVerdict_16 rfl (Nat.le_of_ble_eq_true rfl) (Nat.le_of_ble_eq_true rfl) rfl rfl ?_
  have L17 : ∀ (N : Nat) (τ : zS) (k : Nat), (zOK τ) → ((k : Int) ≤ σ.1 262 (4 + 12 * (wP D (Ht D)))) → (mfr σ τ (fun k => k = 267 ∨ k = 268 ∨ k = 271) (fun i => i = 6 ∨ (9 ≤ i ∧ i ≤ 11) ∨ i = 13 ∨ i = 27)) → (OutM τ (ltL (fun k => σ.1 262 (4 + 12 * (wP D (Ht D)) + 1 + k)) k)) → (τ.1 261 13 = wP D (Ht D)) → (τ.1 261 6 = 0) → (7 - k) < N → zX l w mX10_formatVerdict (zMQ w 11 0 Q) 17 [zf 10 261, zi (wY D (Ht D)), zi ((k : Nat) : Int), zu] [] 0 τ := by
    intro N
    induction N with
    | zero => intro τ k _ _ _ _ _ _ _; exact absurd (by assumption) (Nat.not_lt_zero _)
    | succ N ih17 =>
      intro τ k hz hk h1 h2 h13 h6 hN
      have e262 : ∀ i, τ.1 262 i = σ.1 262 i := h1.1 262 (by omega) (by omega)
      have hRτ : Rel D (τ.1 262) := mfr_R h1 (by omega) hR
      have v13 := h13
      have v3 : τ.1 262 3 = D 12 0 := (e262 3).trans r3
      refine zx_iloadN dX10_formatVerdict_17 rfl rfl ?_
      refine zx_aloadN dX10_formatVerdict_18 rfl rfl ?_
      refine zx_aloadN dX10_formatVerdict_19 rfl rfl ?_
      refine zy_getI fl_RX10_163 rfl dX10_formatVerdict_20 rfl ?_
      refine zy_top (b := (((wP D (Ht D)) : Nat) : Int)) (v13) ?_
      refine zx_iconst dX10_formatVerdict_23 ?_
      refine zy_cv [zi (((wP D (Ht D)) : Nat) : Int), zi 0] (sX10_ofPrinter_n (p := (wP D (Ht D))) (o := 0) hfl hz (by first | assumption | omega) (by first | assumption | omega)) dX10_formatVerdict_24 (by decide) rfl cw_RX10_82 okX10_ofPrinter rfl (Nat.le_of_ble_eq_true rfl) ⟨Nat.le_of_ble_eq_true rfl, Nat.le_of_ble_eq_true rfl, Nat.le_of_ble_eq_true rfl, Nat.le_of_ble_eq_true rfl⟩ ?_
      refine zy_top (b := σ.1 262 (4 + 12 * (wP D (Ht D)))) (e262 _) ?_
      refine zx_icmp_ge (tgt := 51) (by first | exact hz _ _ | assumption | exact zr_b _ | exact zcmp_r _ _ | (unfold zr at *; omega)) (by first | exact hz _ _ | assumption | exact zr_b _ | exact zcmp_r _ _ | (unfold zr at *; omega)) dX10_formatVerdict_27 (by decide) (fun h27 => ?_) (fun h27 => ?_)
      · have hnm : nmL (D 2 (wP D (Ht D))) 6 = ltL (fun k => σ.1 262 (4 + 12 * (wP D (Ht D)) + 1 + k)) k := by
          have e : (σ.1 262 (4 + 12 * (wP D (Ht D)))).toNat = k := by omega
          rw [hno.2.2, ← e]; exact nmL_6 (by omega) (fun j hj => hn2 j (by omega))
        refine zx_aloadN dX10_formatVerdict_51 rfl rfl ?_
        refine zx_bipush dX10_formatVerdict_52 rfl ?_
        refine zy_cvvR [zi 32] (sX10_writes (L := (ltL (fun k => σ.1 262 (4 + 12 * (wP D (Ht D)) + 1 + k)) k)) hfl hz (by first | exact hz _ _ | assumption | exact zr_b _ | exact zcmp_r _ _ | (unfold zr at *; omega)) h2 (by rw [ltL_l]; omega)) dX10_formatVerdict_54 (by decide) rfl cw_RX10_473 okX10_writes rfl (Nat.le_of_ble_eq_true rfl) ⟨Nat.le_of_ble_eq_true rfl, Nat.le_of_ble_eq_true rfl, Nat.le_of_ble_eq_true rfl, Nat.le_of_ble_eq_true rfl⟩ (fun τ54 hr54 => ?_)
        have hz54 : zOK τ54 := hr54.1
        refine zx_aloadN dX10_formatVerdict_57 rfl rfl ?_
        refine zx_iloadN dX10_formatVerdict_58 rfl rfl ?_
        refine zy_cvvR [zi (wY D (Ht D))] (sX10_writesNumber (L := (ltL (fun k => σ.1 262 (4 + 12 * (wP D (Ht D)) + 1 + k)) k ++ [32])) hfl hz54 (by omega) hr54.2.2 (by rw [List.length_append, ltL_l]; simp only [List.length_singleton]; omega)) dX10_formatVerdict_59 (by decide) rfl cw_RX10_476 okX10_writesNumber rfl (Nat.le_of_ble_eq_true rfl) ⟨Nat.le_of_ble_eq_true rfl, Nat.le_of_ble_eq_true rfl, Nat.le_of_ble_eq_true rfl, Nat.le_of_ble_eq_true rfl⟩ (fun τ59 hr59 => ?_)
        have hz59 : zOK τ59 := hr59.1
        refine zx_iconst dX10_formatVerdict_62 ?_
        refine zy_istoreN [zf 10 261, zi (wY D (Ht D)), zi 0, zu] dX10_formatVerdict_63 rfl (Nat.le_of_ble_eq_true rfl) (Nat.le_of_ble_eq_true rfl) rfl rfl ?_
        have L64 : ∀ (N : Nat) (υ : zS) (p : Nat), (zOK υ) → ((p : Int) ≤ D 12 0) → (mfr σ υ (fun k => k = 267 ∨ k = 268 ∨ k = 271) (fun i => i = 6 ∨ (9 ≤ i ∧ i ≤ 11) ∨ i = 13 ∨ i = 27)) → (OutM υ (fmL D p)) → (υ.1 261 13 = wP D (Ht D)) → (υ.1 261 6 = 0) → (41 - p) < N → zX l w mX10_formatVerdict (zMQ w 11 0 Q) 64 [zf 10 261, zi (wY D (Ht D)), zi ((p : Nat) : Int), zu] [] 0 υ := by
          intro N
          induction N with
          | zero => intro υ p _ _ _ _ _ _ _; exact absurd (by assumption) (Nat.not_lt_zero _)
          | succ N ih64 =>
            intro υ p hz hp g1 g2 g13 g6 hN
            have e262 : ∀ i, υ.1 262 i = σ.1 262 i := g1.1 262 (by omega) (by omega)
            have hRτ : Rel D (υ.1 262) := mfr_R g1 (by omega) hR
            have v13 := g13
            have v3 : υ.1 262 3 = D 12 0 := (e262 3).trans r3
            have hfml := fmL_l hW (n := p) hp
            refine zx_iloadN dX10_formatVerdict_64 rfl rfl ?_
            refine zx_aloadN dX10_formatVerdict_65 rfl rfl ?_
            refine zy_getR (q' := 262) fl_RX10_7 rfl dX10_formatVerdict_66 rfl ?_
            refine zx_iconst dX10_formatVerdict_69 ?_
            refine zy_iald (v := υ.1 262 3) rfl (by decide) (by decide) dX10_formatVerdict_70 (by omega) (by omega) rfl ?_
            refine zx_icmp_ge (tgt := 123) (by first | exact hz _ _ | assumption | exact zr_b _ | exact zcmp_r _ _ | (unfold zr at *; omega)) (by first | exact hz _ _ | assumption | exact zr_b _ | exact zcmp_r _ _ | (unfold zr at *; omega)) dX10_formatVerdict_71 (by decide) (fun h71 => ?_) (fun h71 => ?_)
            · refine zx_aloadN dX10_formatVerdict_123 rfl rfl ?_
              refine zy_getI fl_RX10_470 rfl dX10_formatVerdict_124 rfl ?_
              refine zx_iret rfl rfl dX10_formatVerdict_127 ?_
              rw [hQ]
              refine ⟨congrArg (fun z : Int => (Sum.inl (some (zi z)) : Option zV ⊕ String)) ?_, ?_⟩
              · have e : p = (D 12 0).toNat := by omega
                have h := g2.1
                rw [e] at h
                exact h
              have e : p = (D 12 0).toNat := by omega
              exact ⟨hz, g1, e ▸ g2, g6⟩
            · have hpK : (p : Int) < D 12 0 := by omega
              have hO := hW.2.2.2.2.2.1 p hpK
              refine zx_aloadN dX10_formatVerdict_74 rfl rfl ?_
              refine zx_iloadN dX10_formatVerdict_75 rfl rfl ?_
              refine zy_cv [zi ((p : Nat) : Int)] (sX10_inOrder (D := D) hfl hz (by first | assumption | omega) hRτ (by first | exact hz _ _ | assumption | exact zr_b _ | exact zcmp_r _ _ | (unfold zr at *; omega))) dX10_formatVerdict_76 (by decide) rfl cw_RX10_413 okX10_inOrder rfl (Nat.le_of_ble_eq_true rfl) ⟨Nat.le_of_ble_eq_true rfl, Nat.le_of_ble_eq_true rfl, Nat.le_of_ble_eq_true rfl, Nat.le_of_ble_eq_true rfl⟩ ?_
              refine zy_top (b := if 0 ≤ ((p : Nat) : Int) ∧ ((p : Nat) : Int) < D 12 0 then D 19 p else -1) rfl ?_
              refine zy_top (b := (((D 19 p).toNat : Nat) : Int)) (by rw [if_pos (by omega)]; show D 19 p = _; omega) ?_
              refine zy_istoreN [zf 10 261, zi (wY D (Ht D)), zi ((p : Nat) : Int), zi (((D 19 p).toNat : Nat) : Int)] dX10_formatVerdict_79 rfl (Nat.le_of_ble_eq_true rfl) (Nat.le_of_ble_eq_true rfl) rfl rfl ?_
              refine zx_aloadN dX10_formatVerdict_80 rfl rfl ?_
              refine zx_iloadN dX10_formatVerdict_81 rfl rfl ?_
              refine zy_cv [zi (((D 19 p).toNat : Nat) : Int)] (sX10_isCounted (D := D) (c := ((D 19 p).toNat)) hfl hz (by first | assumption | omega) hRτ (by first | assumption | omega)) dX10_formatVerdict_82 (by decide) rfl cw_RX10_121 okX10_isCounted rfl (Nat.le_of_ble_eq_true rfl) ⟨Nat.le_of_ble_eq_true rfl, Nat.le_of_ble_eq_true rfl, Nat.le_of_ble_eq_true rfl, Nat.le_of_ble_eq_true rfl⟩ ?_
              refine zx_if_eq (tgt := 117) (by first | exact hz _ _ | assumption | exact zr_b _ | exact zcmp_r _ _ | (unfold zr at *; omega)) dX10_formatVerdict_85 (by decide) (fun h85 => ?_) (fun h85 => ?_)
              · have h85 := zb_0.mp h85
                refine zy_iinc (b := ((p + 1 : Nat) : Int)) [zf 10 261, zi (wY D (Ht D)), zi ((p + 1 : Nat) : Int), zi (((D 19 p).toNat : Nat) : Int)] dX10_formatVerdict_117 rfl (by omega) (Nat.le_of_ble_eq_true rfl) rfl rfl ?_
                refine zx_goto (tgt := 64) dX10_formatVerdict_120 (by decide) ?_
                refine zy_drop 3 [zf 10 261, zi (wY D (Ht D)), zi ((p + 1 : Nat) : Int), zu] rfl ?_
                exact ih64 υ (p + 1) hz (by omega) (by first | exact g1 | exact (mfr_tr (mfr_tr g1 hr109.2.1 (fun k q => by rcases q with q | q; exact q; exact Or.inr (Or.inr q)) (fun i q => by rcases q with q | q; exact q; exact Or.inr (Or.inr (Or.inr q)))) hr114.2.1 (fun k q => by rcases q with q | q; exact q; exact Or.inr (Or.inr q)) (fun i q => by rcases q with q | q; exact q; exact Or.inr (Or.inr (Or.inr q))))) (by first | (rw [fmL_n h85]; exact g2) | (rw [fmL_o h85 ((opn_e hW hP1 _).mp ⟨h85, h99⟩)]; exact hr114.2.2) | (rw [fmL_e h85 (fun q => ((opn_e hW hP1 _).mpr q).2 h99)]; exact hr114.2.2)) (by first | exact g13 | exact (hr114.2.1.2.1 13 (by decide)).trans ((hr109.2.1.2.1 13 (by decide)).trans g13)) (by first | exact g6 | exact (hr114.2.1.2.1 6 (by decide)).trans ((hr109.2.1.2.1 6 (by decide)).trans g6)) (by omega)
              · have h85 := zb_n.mp h85
                refine zx_aloadN dX10_formatVerdict_88 rfl rfl ?_
                refine zx_aloadN dX10_formatVerdict_89 rfl rfl ?_
                refine zx_iloadN dX10_formatVerdict_90 rfl rfl ?_
                refine zx_aloadN dX10_formatVerdict_91 rfl rfl ?_
                refine zy_getI fl_RX10_163 rfl dX10_formatVerdict_92 rfl ?_
                refine zy_top (b := (((wP D (Ht D)) : Nat) : Int)) (v13) ?_
                refine zx_iloadN dX10_formatVerdict_95 rfl rfl ?_
                refine zy_cv [zi (((D 19 p).toNat : Nat) : Int), zi (((wP D (Ht D)) : Nat) : Int), zi (wY D (Ht D))] (sX10_isExplained (D := D) (c := ((D 19 p).toNat)) (p := (wP D (Ht D))) hfl hz (by first | assumption | omega) hRτ (by first | assumption | omega) (by first | assumption | omega) (by first | exact hz _ _ | assumption | exact zr_b _ | exact zcmp_r _ _ | (unfold zr at *; omega))) dX10_formatVerdict_96 (by decide) rfl cw_RX10_125 okX10_isExplained rfl (Nat.le_of_ble_eq_true rfl) ⟨Nat.le_of_ble_eq_true rfl, Nat.le_of_ble_eq_true rfl, Nat.le_of_ble_eq_true rfl, Nat.le_of_ble_eq_true rfl⟩ ?_
                refine zx_if_eq (tgt := 107) (by first | exact hz _ _ | assumption | exact zr_b _ | exact zcmp_r _ _ | (unfold zr at *; omega)) dX10_formatVerdict_99 (by decide) (fun h99 => ?_) (fun h99 => ?_)
                · have h99 := zb_0.mp h99
                  refine zx_bipush dX10_formatVerdict_107 rfl ?_
                  refine zy_cvvR [zi 45] (sX10_writes (L := (fmL D p)) hfl hz (by first | exact hz _ _ | assumption | exact zr_b _ | exact zcmp_r _ _ | (unfold zr at *; omega)) g2 (by omega)) dX10_formatVerdict_109 (by decide) rfl cw_RX10_473 okX10_writes rfl (Nat.le_of_ble_eq_true rfl) ⟨Nat.le_of_ble_eq_true rfl, Nat.le_of_ble_eq_true rfl, Nat.le_of_ble_eq_true rfl, Nat.le_of_ble_eq_true rfl⟩ (fun τ109 hr109 => ?_)
                  have hz109 : zOK τ109 := hr109.1
                  refine zx_aloadN dX10_formatVerdict_112 rfl rfl ?_
                  refine zx_iloadN dX10_formatVerdict_113 rfl rfl ?_
                  refine zy_top (b := D 19 p) (by omega) ?_
                  refine zy_cvvR [zi (D 19 p)] (sX10_writesNumber (L := (fmL D p ++ [45])) hfl hz109 (by omega) hr109.2.2 (by simp only [List.length_append, List.length_singleton]; omega)) dX10_formatVerdict_114 (by decide) rfl cw_RX10_476 okX10_writesNumber rfl (Nat.le_of_ble_eq_true rfl) ⟨Nat.le_of_ble_eq_true rfl, Nat.le_of_ble_eq_true rfl, Nat.le_of_ble_eq_true rfl, Nat.le_of_ble_eq_true rfl⟩ (fun τ114 hr114 => ?_)
                  have hz114 : zOK τ114 := hr114.1
                  refine zy_iinc (b := ((p + 1 : Nat) : Int)) [zf 10 261, zi (wY D (Ht D)), zi ((p + 1 : Nat) : Int), zi (((D 19 p).toNat : Nat) : Int)] dX10_formatVerdict_117 rfl (by omega) (Nat.le_of_ble_eq_true rfl) rfl rfl ?_
                  refine zx_goto (tgt := 64) dX10_formatVerdict_120 (by decide) ?_
                  refine zy_drop 3 [zf 10 261, zi (wY D (Ht D)), zi ((p + 1 : Nat) : Int), zu] rfl ?_
                  exact ih64 τ114 (p + 1) hz114 (by omega) (by first | exact g1 | exact (mfr_tr (mfr_tr g1 hr109.2.1 (fun k q => by rcases q with q | q; exact q; exact Or.inr (Or.inr q)) (fun i q => by rcases q with q | q; exact q; exact Or.inr (Or.inr (Or.inr q)))) hr114.2.1 (fun k q => by rcases q with q | q; exact q; exact Or.inr (Or.inr q)) (fun i q => by rcases q with q | q; exact q; exact Or.inr (Or.inr (Or.inr q))))) (by first | (rw [fmL_n h85]; exact g2) | (rw [fmL_o h85 ((opn_e hW hP1 _).mp ⟨h85, h99⟩)]; exact hr114.2.2) | (rw [fmL_e h85 (fun q => ((opn_e hW hP1 _).mpr q).2 h99)]; exact hr114.2.2)) (by first | exact g13 | exact (hr114.2.1.2.1 13 (by decide)).trans ((hr109.2.1.2.1 13 (by decide)).trans g13)) (by first | exact g6 | exact (hr114.2.1.2.1 6 (by decide)).trans ((hr109.2.1.2.1 6 (by decide)).trans g6)) (by omega)
                · have h99 := zb_n.mp h99
                  refine zx_bipush dX10_formatVerdict_102 rfl ?_
                  refine zx_goto (tgt := 109) dX10_formatVerdict_104 (by decide) ?_
                  refine zy_cvvR [zi 43] (sX10_writes (L := (fmL D p)) hfl hz (by first | exact hz _ _ | assumption | exact zr_b _ | exact zcmp_r _ _ | (unfold zr at *; omega)) g2 (by omega)) dX10_formatVerdict_109 (by decide) rfl cw_RX10_473 okX10_writes rfl (Nat.le_of_ble_eq_true rfl) ⟨Nat.le_of_ble_eq_true rfl, Nat.le_of_ble_eq_true rfl, Nat.le_of_ble_eq_true rfl, Nat.le_of_ble_eq_true rfl⟩ (fun τ109 hr109 => ?_)
                  have hz109 : zOK τ109 := hr109.1
                  refine zx_aloadN dX10_formatVerdict_112 rfl rfl ?_
                  refine zx_iloadN dX10_formatVerdict_113 rfl rfl ?_
                  refine zy_top (b := D 19 p) (by omega) ?_
                  refine zy_cvvR [zi (D 19 p)] (sX10_writesNumber (L := (fmL D p ++ [43])) hfl hz109 (by omega) hr109.2.2 (by simp only [List.length_append, List.length_singleton]; omega)) dX10_formatVerdict_114 (by decide) rfl cw_RX10_476 okX10_writesNumber rfl (Nat.le_of_ble_eq_true rfl) ⟨Nat.le_of_ble_eq_true rfl, Nat.le_of_ble_eq_true rfl, Nat.le_of_ble_eq_true rfl, Nat.le_of_ble_eq_true rfl⟩ (fun τ114 hr114 => ?_)
                  have hz114 : zOK τ114 := hr114.1
                  refine zy_iinc (b := ((p + 1 : Nat) : Int)) [zf 10 261, zi (wY D (Ht D)), zi ((p + 1 : Nat) : Int), zi (((D 19 p).toNat : Nat) : Int)] dX10_formatVerdict_117 rfl (by omega) (Nat.le_of_ble_eq_true rfl) rfl rfl ?_
                  refine zx_goto (tgt := 64) dX10_formatVerdict_120 (by decide) ?_
                  refine zy_drop 3 [zf 10 261, zi (wY D (Ht D)), zi ((p + 1 : Nat) : Int), zu] rfl ?_
                  exact ih64 τ114 (p + 1) hz114 (by omega) (by first | exact g1 | exact (mfr_tr (mfr_tr g1 hr109.2.1 (fun k q => by rcases q with q | q; exact q; exact Or.inr (Or.inr q)) (fun i q => by rcases q with q | q; exact q; exact Or.inr (Or.inr (Or.inr q)))) hr114.2.1 (fun k q => by rcases q with q | q; exact q; exact Or.inr (Or.inr q)) (fun i q => by rcases q with q | q; exact q; exact Or.inr (Or.inr (Or.inr q))))) (by first | (rw [fmL_n h85]; exact g2) | (rw [fmL_o h85 ((opn_e hW hP1 _).mp ⟨h85, h99⟩)]; exact hr114.2.2) | (rw [fmL_e h85 (fun q => ((opn_e hW hP1 _).mpr q).2 h99)]; exact hr114.2.2)) (by first | exact g13 | exact (hr114.2.1.2.1 13 (by decide)).trans ((hr109.2.1.2.1 13 (by decide)).trans g13)) (by first | exact g6 | exact (hr114.2.1.2.1 6 (by decide)).trans ((hr109.2.1.2.1 6 (by decide)).trans g6)) (by omega)
        exact L64 _ τ59 0 hz59 (by omega) (mfr_tr (mfr_tr h1 hr54.2.1 (fun k q => by rcases q with q | q; exact q; exact Or.inr (Or.inr q)) (fun i q => by rcases q with q | q; exact q; exact Or.inr (Or.inr (Or.inr q)))) hr59.2.1 (fun k q => by rcases q with q | q; exact q; exact Or.inr (Or.inr q)) (fun i q => by rcases q with q | q; exact q; exact Or.inr (Or.inr (Or.inr q)))) (by have h := hr59.2.2; rw [fm_0, hnm]; exact h) ((hr59.2.1.2.1 13 (by decide)).trans ((hr54.2.1.2.1 13 (by decide)).trans h13)) ((hr59.2.1.2.1 6 (by decide)).trans ((hr54.2.1.2.1 6 (by decide)).trans h6)) (Nat.lt_succ_self _)
      · refine zx_aloadN dX10_formatVerdict_30 rfl rfl ?_
        refine zx_aloadN dX10_formatVerdict_31 rfl rfl ?_
        refine zx_aloadN dX10_formatVerdict_32 rfl rfl ?_
        refine zy_getI fl_RX10_163 rfl dX10_formatVerdict_33 rfl ?_
        refine zy_top (b := (((wP D (Ht D)) : Nat) : Int)) (v13) ?_
        refine zx_iconst dX10_formatVerdict_36 ?_
        refine zx_iloadN dX10_formatVerdict_37 rfl rfl ?_
        refine zx_iadd dX10_formatVerdict_38 ?_
        refine zy_top (b := ((1 + k : Nat) : Int)) (by omega) ?_
        refine zy_cv [zi (((wP D (Ht D)) : Nat) : Int), zi ((1 + k : Nat) : Int)] (sX10_ofPrinter_n (p := (wP D (Ht D))) (o := (1 + k)) hfl hz (by first | assumption | omega) (by first | assumption | omega)) dX10_formatVerdict_39 (by decide) rfl cw_RX10_82 okX10_ofPrinter rfl (Nat.le_of_ble_eq_true rfl) ⟨Nat.le_of_ble_eq_true rfl, Nat.le_of_ble_eq_true rfl, Nat.le_of_ble_eq_true rfl, Nat.le_of_ble_eq_true rfl⟩ ?_
        refine zy_top (b := σ.1 262 (4 + 12 * (wP D (Ht D)) + 1 + k)) (by rw [e262, show 4 + 12 * (wP D (Ht D)) + (1 + k) = 4 + 12 * (wP D (Ht D)) + 1 + k by omega]) ?_
        refine zy_cvvR [zi (σ.1 262 (4 + 12 * (wP D (Ht D)) + 1 + k))] (sX10_writes (L := (ltL (fun k => σ.1 262 (4 + 12 * (wP D (Ht D)) + 1 + k)) k)) hfl hz (hzσ _ _) h2 (by rw [ltL_l]; omega)) dX10_formatVerdict_42 (by decide) rfl cw_RX10_473 okX10_writes rfl (Nat.le_of_ble_eq_true rfl) ⟨Nat.le_of_ble_eq_true rfl, Nat.le_of_ble_eq_true rfl, Nat.le_of_ble_eq_true rfl, Nat.le_of_ble_eq_true rfl⟩ (fun τ42 hr42 => ?_)
        have hz42 : zOK τ42 := hr42.1
        refine zy_iinc (b := ((k + 1 : Nat) : Int)) [zf 10 261, zi (wY D (Ht D)), zi ((k + 1 : Nat) : Int), zu] dX10_formatVerdict_45 rfl (by omega) (Nat.le_of_ble_eq_true rfl) rfl rfl ?_
        refine zx_goto (tgt := 17) dX10_formatVerdict_48 (by decide) ?_
        exact ih17 τ42 (k + 1) hz42 (by omega) (mfr_tr h1 hr42.2.1 (fun k q => by rcases q with q | q; exact q; exact Or.inr (Or.inr q)) (fun i q => by rcases q with q | q; exact q; exact Or.inr (Or.inr (Or.inr q)))) hr42.2.2 ((hr42.2.1.2.1 13 (by decide)).trans h13) ((hr42.2.1.2.1 6 (by decide)).trans h6) (by omega)
  exact L17 _ τ11 0 hz11 (by omega) (mfr_mo (mfr_tr (A'' := fun k => k = 267 ∨ k = 268) (F'' := fun i => i = 6 ∨ i = 27 ∨ (9 ≤ i ∧ i ≤ 11) ∨ i = 13) (mfr_put261 (mfr_put261 (mfr_rf σ (fun _ => False) (fun _ => False)))) hr11.2.1 (fun k q => q.elim (fun z => absurd z id) id) (fun i q => by rcases q with ((q | q) | q) | q; exact absurd q id; exact Or.inl q; exact Or.inr (Or.inl q); exact Or.inr (Or.inr q))) (fun k q => by omega) (fun i q => by omega)) (⟨(hr11.2.1.2.1 27 (by omega)).trans (zput_s _ _ _ _), fun i hi => absurd hi (Nat.not_lt_zero i)⟩) hr11.2.2.1 ((hr11.2.1.2.1 6 (by omega)).trans ((zput_i _ _ _ _ _ (by decide)).trans (zput_s _ _ _ _))) (Nat.lt_succ_self _)
set_option maxRecDepth 20000 in
set_option maxHeartbeats 2000000 in
theorem sX9_setAsideUnexplained {l : Launch} {w : zW} (hfl : l.stackTraces = false) {σ : zS}  (hz : zOK σ) (hW : WF (bk σ 30)) (hP1 : 1 ≤ σ.1 31 0) (hN : HN σ) (hA : HBA σ) : Sp l w mX9_setAsideUnexplained 6 0 [zf 9 0] σ (zqv (some (zi (zs (fun c => zb (opn (bk σ 30) c)) (σ.1 42 0).toNat))) (fun τ => zOK τ ∧ zSame (fun q => (30 ≤ q ∧ q ≤ 49) ∨ (70 ≤ q ∧ q ≤ 258)) σ τ ∧ HPu σ τ ∧ HBA τ ∧ WF (bk τ 30) ∧ lEq (clB (bk σ 30)) (bk τ 30))) := by
  obtain ⟨Q, hQ⟩ : ∃ Q : zQ, Q = (zqv (some (zi (zs (fun c => zb (opn (bk σ 30) c)) (σ.1 42 0).toNat))) (fun τ => zOK τ ∧ zSame (fun q => (30 ≤ q ∧ q ≤ 49) ∨ (70 ≤ q ∧ q ≤ 258)) σ τ ∧ HPu σ τ ∧ HBA τ ∧ WF (bk τ 30) ∧ lEq (clB (bk σ 30)) (bk τ 30))) := ⟨_, rfl⟩
  rw [← hQ]
  refine zx_enter hfl (by decide) rfl 2 rfl ?_
  show zX l w mX9_setAsideUnexplained (zMQ w 6 0 Q) 0 [zf 9 0, zu, zu] [] 0 σ
  have hP : 0 ≤ σ.1 31 0 ∧ σ.1 31 0 ≤ 8 := hW.1.1
  have hM : 0 ≤ σ.1 31 7 ∧ σ.1 31 7 ≤ 8 := hW.1.2.1
  have hE : 0 ≤ σ.1 31 10 ∧ σ.1 31 10 ≤ 12 := hW.1.2.2.1
  have hK : 0 ≤ σ.1 42 0 ∧ σ.1 42 0 ≤ 40 := hW.1.2.2.2
  refine zx_aloadN dX9_setAsideUnexplained_0 rfl rfl ?_
  refine zy_cvvR [] (sX9_judgePresent  hfl hz (by first | assumption | omega)) dX9_setAsideUnexplained_1 (by decide) rfl cw_RX9_240 okX9_judgePresent rfl (Nat.le_of_ble_eq_true rfl) ⟨Nat.le_of_ble_eq_true rfl, Nat.le_of_ble_eq_true rfl, Nat.le_of_ble_eq_true rfl, Nat.le_of_ble_eq_true rfl⟩ (fun τ1 hr1 => ?_)
  have hz1 : zOK τ1 := hr1.1
  have bk1 : bk σ 30 1 0 = σ.1 31 0 := rfl
  have bk12 : bk σ 30 12 0 = σ.1 42 0 := rfl
  have jw := Jd_win hW hr1.2.2 hP1
  have jwP : (wP (bk σ 30) (Ht (bk σ 30)) : Int) < σ.1 31 0 := jw.1
  have jr := Jd_rk hr1.2.2
  have jH := hr1.2.2.2.1
  have jT := hr1.2.2.2.2.1
  have jP : τ1.1 252 5 = σ.1 31 0 := hr1.2.2.1
  have jO := hr1.2.2.2.2.2
  have j0 := jO.1 0 (by show 0 < (σ.1 31 0).toNat; omega)
  have jq : zEq (bk σ 30) (bk τ1 30) := zEq_same hr1.2.1 (by intro o ho; show ¬ (252 ≤ 30 + o ∧ 30 + o ≤ 258); omega)
  have jW := WF_eq jq hW
  have j31 : τ1.1 31 0 = σ.1 31 0 := hr1.2.1.1 31 (by dsimp only; omega) 0
  have j42 : τ1.1 42 0 = σ.1 42 0 := hr1.2.1.1 42 (by dsimp only; omega) 0
  have jb := tR_b (H := (Ht (bk σ 30))) hW jw.1
  have jy := (hW.2.1 _ jw.1).2
  have jyb : 1450 ≤ wY (bk σ 30) (Ht (bk σ 30)) ∧ wY (bk σ 30) (Ht (bk σ 30)) ≤ 1999 := by unfold wY; omega
  have jsb : 0 ≤ wS (bk σ 30) (Ht (bk σ 30)) ∧ wS (bk σ 30) (Ht (bk σ 30)) ≤ 360 := tS_b hW _
  have jw0 : 0 ≤ τ1.1 258 0 ∧ τ1.1 258 0 < 8 := by omega
  have hN1 : HN τ1 := HN_post hN hr1.2.1 (by first | omega | (dsimp only; omega))
  have hA1 : HBA τ1 := HBA_post hA hr1.2.1 (fun q hq => by first | omega | (dsimp only; omega))
  refine zx_aloadN dX9_setAsideUnexplained_4 rfl rfl ?_
  refine zy_getR (q' := 70) fl_RX9_47 rfl dX9_setAsideUnexplained_5 rfl ?_
  refine zx_aloadN dX9_setAsideUnexplained_8 rfl rfl ?_
  refine zy_getR (q' := 30) fl_RX9_33 rfl dX9_setAsideUnexplained_9 rfl ?_
  refine zy_cvvR [zf 1 30] (sX5_prepare  hfl hz1 hN1.1 (hA1 30 (Or.inr (Or.inl rfl)))) dX9_setAsideUnexplained_12 (by decide) rfl cw_RX9_143 okX5_prepare rfl (Nat.le_of_ble_eq_true rfl) ⟨Nat.le_of_ble_eq_true rfl, Nat.le_of_ble_eq_true rfl, Nat.le_of_ble_eq_true rfl, Nat.le_of_ble_eq_true rfl⟩ (fun τ12 hr12 => ?_)
  have hz12 : zOK τ12 := hr12.1
  have hp := hprep hN1 hA1 hr12.2.1 hr12.2.2.2
  have ep : ∀ q, q < 72 → ∀ i, τ12.1 q i = σ.1 q i := fun q h1 i => (hr12.2.1.1 q (by dsimp only; omega) i).trans (hr1.2.1.1 q (by dsimp only; omega) i)
  have pq : pEq (bk σ 30) (bk τ12 30) := fun o ho i => ep _ (by omega) i
  have hWp := WF_eq (pEq_z pq) hW
  have ej : ∀ q, 252 ≤ q → q ≤ 258 → ∀ i, τ12.1 q i = τ1.1 q i := fun q h1 h2 i => hr12.2.1.1 q (by have := hN1.1; dsimp only; omega) i
  have hN12 : HN τ12 := by have e1 := ep 70 (by omega) 1; have e2 := ep 70 (by omega) 2; unfold HN at *; omega
  refine zx_iconst dX9_setAsideUnexplained_15 ?_
  refine zy_istoreN [zf 9 0, zi 0, zu] dX9_setAsideUnexplained_16 rfl (Nat.le_of_ble_eq_true rfl) (Nat.le_of_ble_eq_true rfl) rfl rfl ?_
  refine zx_iconst dX9_setAsideUnexplained_17 ?_
  refine zy_istoreN [zf 9 0, zi 0, zi 0] dX9_setAsideUnexplained_18 rfl (Nat.le_of_ble_eq_true rfl) (Nat.le_of_ble_eq_true rfl) rfl rfl ?_
  have L19 : ∀ (N : Nat) (τ : zS) (c : Nat) (acc : Int), (zOK τ) → ((c : Int) ≤ σ.1 42 0) → (zSame (fun q => q = 48) τ12 τ) → (∀ i, τ.1 48 i = clP (bk σ 30) c 18 i) → (acc = zs (fun c => zb (opn (bk σ 30) c)) c) → (bbK τ 30) → (41 - c) < N → zX l w mX9_setAsideUnexplained (zMQ w 6 0 Q) 19 [zf 9 0, zi acc, zi ((c : Nat) : Int)] [] 0 τ := by
    intro N
    induction N with
    | zero => intro τ c acc _ _ _ _ _ _ _; exact absurd (by assumption) (Nat.not_lt_zero _)
    | succ N ih19 =>
      intro τ c acc hz hc h1 h2 hacc hb hN
      have eo : ∀ o, o ≤ 19 → o ≠ 18 → ∀ i, bk τ 30 o i = bk σ 30 o i := fun o ho h8 i => (h1.1 (30 + o) (by first | omega | (dsimp only; omega)) i).trans (ep _ (by omega) i)
      have c42 : τ.1 42 0 = σ.1 42 0 := eo 12 (by omega) (by omega) 0
      have c31 : τ.1 31 0 = σ.1 31 0 := eo 1 (by omega) (by omega) 0
      have hWτ : WF (bk τ 30) := WF_agree hWp (fun o i _ _ _ h => h1.1 (30 + o) (by first | omega | (dsimp only; omega)) i) (fun d hd => by
        have hd2 : (d : Int) < σ.1 42 0 := by have e : bk τ12 30 12 0 = σ.1 42 0 := pq 12 (by omega) 0; omega
        have q := hW.2.2.2.2.1 d hd2
        have q18 := h2 d
        refine ⟨by rw [eo 16 (by omega) (by omega)]; exact q.2.2.1, by rw [eo 17 (by omega) (by omega)]; exact q.2.2.2.1, ?_⟩
        show τ.1 48 d = 0 ∨ τ.1 48 d = 1
        rw [q18]; unfold clP; split
        · exact Or.inr rfl
        · exact q.2.2.2.2)
      have t253 : ∀ i, τ.1 253 i = τ1.1 253 i := fun i => (h1.1 253 (by first | omega | (dsimp only; omega)) i).trans (ej 253 (by omega) (by omega) i)
      have t255 : ∀ i, τ.1 255 i = τ1.1 255 i := fun i => (h1.1 255 (by first | omega | (dsimp only; omega)) i).trans (ej 255 (by omega) (by omega) i)
      have t258 : ∀ i, τ.1 258 i = τ1.1 258 i := fun i => (h1.1 258 (by first | omega | (dsimp only; omega)) i).trans (ej 258 (by omega) (by omega) i)
      have t252 : ∀ i, τ.1 252 i = τ1.1 252 i := fun i => (h1.1 252 (by first | omega | (dsimp only; omega)) i).trans (ej 252 (by omega) (by omega) i)
      have t252b := t252 5
      refine zx_iloadN dX9_setAsideUnexplained_19 rfl rfl ?_
      refine zx_aloadN dX9_setAsideUnexplained_20 rfl rfl ?_
      refine zy_getR (q' := 30) fl_RX9_33 rfl dX9_setAsideUnexplained_21 rfl ?_
      refine zy_getR (q' := 42) fl_RX9_125 rfl dX9_setAsideUnexplained_24 rfl ?_
      refine zy_getI fl_RX9_129 rfl dX9_setAsideUnexplained_27 rfl ?_
      refine zx_icmp_ge (tgt := 66) (by first | exact hz _ _ | assumption | exact zr_b _ | exact zcmp_r _ _ | (unfold zr at *; omega)) (by first | exact hz _ _ | assumption | exact zr_b _ | exact zcmp_r _ _ | (unfold zr at *; omega)) dX9_setAsideUnexplained_30 (by decide) (fun h30 => ?_) (fun h30 => ?_)
      · have hNt : HN τ := HN_post hN12 h1 (by first | omega | (dsimp only; omega))
        refine zx_aloadN dX9_setAsideUnexplained_66 rfl rfl ?_
        refine zy_getR (q' := 70) fl_RX9_47 rfl dX9_setAsideUnexplained_67 rfl ?_
        refine zy_cvvR [] (sX5_commit  hfl hz hNt.1 hNt.2) dX9_setAsideUnexplained_70 (by decide) rfl cw_RX9_151 okX5_commit rfl (Nat.le_of_ble_eq_true rfl) ⟨Nat.le_of_ble_eq_true rfl, Nat.le_of_ble_eq_true rfl, Nat.le_of_ble_eq_true rfl, Nat.le_of_ble_eq_true rfl⟩ (fun τ70 hr70 => ?_)
        have hz70 : zOK τ70 := hr70.1
        have ho : zSame (fun q => 30 ≤ q ∧ q ≤ 49) τ12 τ := ⟨fun q hq i => h1.1 q (by first | omega | (dsimp only at hq ⊢; omega)) i, h1.2⟩
        have hq := hpush hN1 hA1 hr12.2.1 hr12.2.2.1 hr12.2.2.2 ho hb hr70.2.1 hr70.2.2
        have ec : c = (σ.1 42 0).toNat := by omega
        have hcl : pEq (clP (bk σ 30) c) (bk τ 30) := fun o ho i => by
          by_cases e : o = 18
          · subst e; exact h2 i
          · rw [clP_k _ _ e]; exact eo o ho e i
        have hcl2 : lEq (clB (bk σ 30)) (clP (bk σ 30) c) := by rw [ec]; exact lEq_sy (clP_e hW)
        refine zx_iloadN dX9_setAsideUnexplained_73 rfl rfl ?_
        refine zx_iret rfl rfl dX9_setAsideUnexplained_74 ?_
        rw [hQ]
        refine ⟨congrArg (fun z : Int => (Sum.inl (some (zi z)) : Option zV ⊕ String)) ?_, ?_⟩
        · rw [hacc, ec]
        exact ⟨hz70, zSame_tr hr1.2.1 hq.2.2.1 (fun q hq => by first | omega | (dsimp only at hq ⊢; omega)), HPu_pre hr1.2.1 hq.1, hq.2.1, WF_eq (pEq_z hq.2.2.2) hWτ, lEq_tr hcl2 (pEq_l (pEq_tr hcl hq.2.2.2))⟩
      · refine zx_aloadN dX9_setAsideUnexplained_33 rfl rfl ?_
        refine zy_getR (q' := 252) fl_RX9_54 rfl dX9_setAsideUnexplained_34 rfl ?_
        refine zx_aloadN dX9_setAsideUnexplained_37 rfl rfl ?_
        refine zy_getR (q' := 30) fl_RX9_33 rfl dX9_setAsideUnexplained_38 rfl ?_
        refine zx_iloadN dX9_setAsideUnexplained_41 rfl rfl ?_
        refine zy_cv [zf 1 30, zi ((c : Nat) : Int)] (sX7_leavesOpen (h := (Ht (bk σ 30) c)) (u := (wP (bk σ 30) (Ht (bk σ 30)))) hfl hz hWτ (by first | assumption | omega) ((t258 0).trans jw.2.1) (by omega) (by first | assumption | omega) ((t253 c).trans (jH c (by show (c : Int) < σ.1 42 0; omega)))) dX9_setAsideUnexplained_42 (by decide) rfl cw_RX9_267 okX7_leavesOpen rfl (Nat.le_of_ble_eq_true rfl) ⟨Nat.le_of_ble_eq_true rfl, Nat.le_of_ble_eq_true rfl, Nat.le_of_ble_eq_true rfl, Nat.le_of_ble_eq_true rfl⟩ ?_
        refine zy_top (b := zb (opn (bk σ 30) c)) (by rw [t255, jw.2.2.1]; exact zb_c (by unfold opn; rw [cFit_ag (fun o ho i => eo o (by omega) (by omega) i)])) ?_
        refine zx_if_eq (tgt := 60) (by first | exact hz _ _ | assumption | exact zr_b _ | exact zcmp_r _ _ | (unfold zr at *; omega)) dX9_setAsideUnexplained_45 (by decide) (fun h45 => ?_) (fun h45 => ?_)
        · have h45 := zb_0.mp h45
          refine zy_iinc (b := ((c + 1 : Nat) : Int)) [zf 9 0, zi acc, zi ((c + 1 : Nat) : Int)] dX9_setAsideUnexplained_60 rfl (by omega) (Nat.le_of_ble_eq_true rfl) rfl rfl ?_
          refine zx_goto (tgt := 19) dX9_setAsideUnexplained_63 (by decide) ?_
          exact ih19 τ (c + 1) acc hz (by first | assumption | omega) (by first | exact h1 | exact ⟨fun q hq i => by have hq2 := hq; dsimp only at hq2; exact (zput_k _ _ _ _ _ (by omega)).trans (h1.1 q hq i), h1.2⟩) (by first | exact (fun i => (h2 i).trans (clP_fi h45 i).symm) | exact (fun i => by rw [zput_e]; exact clP_ti h45 h2 i)) (by subst hacc; first | exact zsb_t (P := opn (bk σ 30)) h45 | exact zsb_f (P := opn (bk σ 30)) h45) (by first | exact hb | exact bb_put (o := 18) (Or.inr rfl) hb) (by omega)
        · have h45 := zb_n.mp h45
          refine zx_aloadN dX9_setAsideUnexplained_48 rfl rfl ?_
          refine zy_getR (q' := 30) fl_RX9_33 rfl dX9_setAsideUnexplained_49 rfl ?_
          refine zx_iloadN dX9_setAsideUnexplained_52 rfl rfl ?_
          refine zy_cv [zi ((c : Nat) : Int)] (sX1_drop  hfl hz (by first | exact hz _ _ | assumption | exact zr_b _ | exact zcmp_r _ _ | (unfold zr at *; omega)) (by first | assumption | omega | (show 0 ≤ τ.1 42 0 ∧ τ.1 42 0 ≤ 40; omega)) (by show 0 ≤ ((c : Nat) : Int) ∧ ((c : Nat) : Int) < τ.1 42 0; omega) (fun q => q ((h2 c).trans ((clP_c _ (Nat.le_refl c) _).trans h45.1.2)))) dX9_setAsideUnexplained_53 (by decide) rfl cw_RX9_308 okX1_drop rfl (Nat.le_of_ble_eq_true rfl) ⟨Nat.le_of_ble_eq_true rfl, Nat.le_of_ble_eq_true rfl, Nat.le_of_ble_eq_true rfl, Nat.le_of_ble_eq_true rfl⟩ ?_
          refine zx_pop rfl dX9_setAsideUnexplained_56 ?_
          refine zy_iinc (b := acc + 1) [zf 9 0, zi (acc + 1), zi ((c : Nat) : Int)] dX9_setAsideUnexplained_57 rfl (by omega) (Nat.le_of_ble_eq_true rfl) rfl rfl ?_
          refine zy_iinc (b := ((c + 1 : Nat) : Int)) [zf 9 0, zi (acc + 1), zi ((c + 1 : Nat) : Int)] dX9_setAsideUnexplained_60 rfl (by omega) (Nat.le_of_ble_eq_true rfl) rfl rfl ?_
          refine zx_goto (tgt := 19) dX9_setAsideUnexplained_63 (by decide) ?_
          exact ih19 (zput τ (30 + 18) ((c : Nat) : Int).toNat 1) (c + 1) (acc + 1) (zOK_put hz (by unfold zr; omega)) (by first | assumption | omega) (by first | exact h1 | exact ⟨fun q hq i => by have hq2 := hq; dsimp only at hq2; exact (zput_k _ _ _ _ _ (by omega)).trans (h1.1 q hq i), h1.2⟩) (by first | exact (fun i => (h2 i).trans (clP_fi h45 i).symm) | exact (fun i => by rw [zput_e]; exact clP_ti h45 h2 i)) (by subst hacc; first | exact zsb_t (P := opn (bk σ 30)) h45 | exact zsb_f (P := opn (bk σ 30)) h45) (by first | exact hb | exact bb_put (o := 18) (Or.inr rfl) hb) (by omega)
  exact L19 _ τ12 0 0 hz12 (by first | assumption | omega) (zSame_rf _ _) (fun i => (ep 48 (by omega) i).trans (if_neg (fun q => absurd q.2.1 (Nat.not_lt_zero i))).symm) rfl (hp.1 30 (Or.inr (Or.inl rfl))) (Nat.lt_succ_self _)

