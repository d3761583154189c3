abbrev mJ0_coder_7d493 : zM := (yJ0_coder_7d493, cJ0_coder_7d493, 1, (some .byte), [])
theorem okJ0_coder_7d493 : zMok mJ0_coder_7d493 0 := ⟨by decide, by decide, by decide +kernel⟩
theorem dJ0_coder_7d493_0 : decode cJ0_coder_7d493 0 = .ok (.getstatic 38, 3) := by decide +kernel
theorem fs_RJ0_38 : Cond.fieldLink "java/lang/String" 38 "java/lang/String" "COMPACT_STRINGS" "Z" ∈ zgood := zmem1 325 (by decide +kernel) rfl
theorem dJ0_coder_7d493_3 : decode cJ0_coder_7d493 3 = .ok (.ifCond .eq 10, 3) := by decide +kernel
theorem dJ0_coder_7d493_6 : decode cJ0_coder_7d493 6 = .ok (.aload_n 0, 1) := by decide +kernel
theorem dJ0_coder_7d493_7 : decode cJ0_coder_7d493 7 = .ok (.getfield 15, 3) := by decide +kernel
theorem fs_RJ0_15 : Cond.fieldLink "java/lang/String" 15 "java/lang/String" "coder" "B" ∈ zgood := zmem1 1433 (by decide +kernel) rfl
theorem dJ0_coder_7d493_10 : decode cJ0_coder_7d493 10 = .ok (.goto 4, 3) := by decide +kernel
theorem dJ0_coder_7d493_14 : decode cJ0_coder_7d493 14 = .ok (.ireturn, 1) := by decide +kernel
abbrev mJ0_isLatin1_aae02 : zM := (yJ0_isLatin1_aae02, cJ0_isLatin1_aae02, 1, (some .boolean), [])
theorem okJ0_isLatin1_aae02 : zMok mJ0_isLatin1_aae02 0 := ⟨by decide, by decide, by decide +kernel⟩
theorem dJ0_isLatin1_aae02_0 : decode cJ0_isLatin1_aae02 0 = .ok (.getstatic 38, 3) := by decide +kernel
theorem dJ0_isLatin1_aae02_3 : decode cJ0_isLatin1_aae02 3 = .ok (.ifCond .eq 14, 3) := by decide +kernel
theorem dJ0_isLatin1_aae02_6 : decode cJ0_isLatin1_aae02 6 = .ok (.aload_n 0, 1) := by decide +kernel
theorem dJ0_isLatin1_aae02_7 : decode cJ0_isLatin1_aae02 7 = .ok (.getfield 15, 3) := by decide +kernel
theorem dJ0_isLatin1_aae02_10 : decode cJ0_isLatin1_aae02 10 = .ok (.ifCond .ne 7, 3) := by decide +kernel
theorem dJ0_isLatin1_aae02_13 : decode cJ0_isLatin1_aae02 13 = .ok (.iconst 1, 1) := by decide +kernel
theorem dJ0_isLatin1_aae02_14 : decode cJ0_isLatin1_aae02 14 = .ok (.goto 4, 3) := by decide +kernel
theorem dJ0_isLatin1_aae02_18 : decode cJ0_isLatin1_aae02 18 = .ok (.ireturn, 1) := by decide +kernel
abbrev mJ0_length_8abf5 : zM := (yJ0_length_8abf5, cJ0_length_8abf5, 1, (some .int), [])
theorem okJ0_length_8abf5 : zMok mJ0_length_8abf5 0 := ⟨by decide, by decide, by decide +kernel⟩
theorem dJ0_length_8abf5_0 : decode cJ0_length_8abf5 0 = .ok (.aload_n 0, 1) := by decide +kernel
theorem dJ0_length_8abf5_1 : decode cJ0_length_8abf5 1 = .ok (.getfield 9, 3) := by decide +kernel
theorem fs_RJ0_9 : Cond.fieldLink "java/lang/String" 9 "java/lang/String" "value" "[B" ∈ zgood := zmem1 1432 (by decide +kernel) rfl
theorem dJ0_length_8abf5_4 : decode cJ0_length_8abf5 4 = .ok (.arraylength, 1) := by decide +kernel
theorem dJ0_length_8abf5_5 : decode cJ0_length_8abf5 5 = .ok (.aload_n 0, 1) := by decide +kernel
theorem dJ0_length_8abf5_6 : decode cJ0_length_8abf5 6 = .ok (.invokevirtual 335, 3) := by decide +kernel
theorem cw_RJ0_335 : zCwV RJ0 335 mJ0_coder_7d493 := zall [321, 322, 323, 22, 324] (by decide +kernel) (by decide +kernel)
theorem dJ0_length_8abf5_9 : decode cJ0_length_8abf5 9 = .ok (.ishr, 1) := by decide +kernel
theorem dJ0_length_8abf5_10 : decode cJ0_length_8abf5 10 = .ok (.ireturn, 1) := by decide +kernel
abbrev mJ3_checkIndex_8e157 : zM := (yJ3_checkIndex_8e157, cJ3_checkIndex_8e157, 3, (some .int), [])
theorem okJ3_checkIndex_8e157 : zMok mJ3_checkIndex_8e157 3 := ⟨by decide, by decide, by decide +kernel⟩
theorem dJ3_checkIndex_8e157_0 : decode cJ3_checkIndex_8e157 0 = .ok (.iload_n 0, 1) := by decide +kernel
theorem dJ3_checkIndex_8e157_1 : decode cJ3_checkIndex_8e157 1 = .ok (.ifCond .lt 8, 3) := by decide +kernel
theorem dJ3_checkIndex_8e157_4 : decode cJ3_checkIndex_8e157 4 = .ok (.iload_n 0, 1) := by decide +kernel
theorem dJ3_checkIndex_8e157_5 : decode cJ3_checkIndex_8e157 5 = .ok (.iload_n 1, 1) := by decide +kernel
theorem dJ3_checkIndex_8e157_6 : decode cJ3_checkIndex_8e157 6 = .ok (.if_icmp .lt 10, 3) := by decide +kernel
theorem dJ3_checkIndex_8e157_16 : decode cJ3_checkIndex_8e157 16 = .ok (.iload_n 0, 1) := by decide +kernel
theorem dJ3_checkIndex_8e157_17 : decode cJ3_checkIndex_8e157 17 = .ok (.ireturn, 1) := by decide +kernel
abbrev mJ0_checkIndex_df160 : zM := (yJ0_checkIndex_df160, cJ0_checkIndex_df160, 2, none, [])
theorem okJ0_checkIndex_df160 : zMok mJ0_checkIndex_df160 2 := ⟨by decide, by decide, by decide +kernel⟩
theorem dJ0_checkIndex_df160_0 : decode cJ0_checkIndex_df160 0 = .ok (.iload_n 0, 1) := by decide +kernel
theorem dJ0_checkIndex_df160_1 : decode cJ0_checkIndex_df160 1 = .ok (.iload_n 1, 1) := by decide +kernel
theorem dJ0_checkIndex_df160_2 : decode cJ0_checkIndex_df160 2 = .ok (.getstatic 1053, 3) := by decide +kernel
theorem fs_RJ0_1053 : Cond.fieldLink "java/lang/String" 1053 "jdk/internal/util/Preconditions" "SIOOBE_FORMATTER" "Ljava/util/function/BiFunction;" ∈ zgood := zmem1 341 (by decide +kernel) rfl
theorem dJ0_checkIndex_df160_5 : decode cJ0_checkIndex_df160 5 = .ok (.invokestatic 1059, 3) := by decide +kernel
theorem cw_RJ0_1059 : zCwS RJ0 1059 mJ3_checkIndex_8e157 := zall [343, 344, 27, 345] (by decide +kernel) (by decide +kernel)
theorem dJ0_checkIndex_df160_8 : decode cJ0_checkIndex_df160 8 = .ok (.pop, 1) := by decide +kernel
theorem dJ0_checkIndex_df160_9 : decode cJ0_checkIndex_df160 9 = .ok (.return_, 1) := by decide +kernel
abbrev mJ1_charAt_3b067 : zM := (yJ1_charAt_3b067, cJ1_charAt_3b067, 2, (some .char), [])
theorem okJ1_charAt_3b067 : zMok mJ1_charAt_3b067 2 := ⟨by decide, by decide, by decide +kernel⟩
theorem dJ1_charAt_3b067_0 : decode cJ1_charAt_3b067 0 = .ok (.iload_n 1, 1) := by decide +kernel
theorem dJ1_charAt_3b067_1 : decode cJ1_charAt_3b067 1 = .ok (.aload_n 0, 1) := by decide +kernel
theorem dJ1_charAt_3b067_2 : decode cJ1_charAt_3b067 2 = .ok (.arraylength, 1) := by decide +kernel
theorem dJ1_charAt_3b067_3 : decode cJ1_charAt_3b067 3 = .ok (.invokestatic 9, 3) := by decide +kernel
theorem cw_RJ1_9 : zCwS RJ1 9 mJ0_checkIndex_df160 := zall [338, 339, 22, 340] (by decide +kernel) (by decide +kernel)
theorem dJ1_charAt_3b067_6 : decode cJ1_charAt_3b067 6 = .ok (.aload_n 0, 1) := by decide +kernel
theorem dJ1_charAt_3b067_7 : decode cJ1_charAt_3b067 7 = .ok (.iload_n 1, 1) := by decide +kernel
theorem dJ1_charAt_3b067_8 : decode cJ1_charAt_3b067 8 = .ok (.baload, 1) := by decide +kernel
theorem dJ1_charAt_3b067_9 : decode cJ1_charAt_3b067 9 = .ok (.sipush 255, 3) := by decide +kernel
theorem dJ1_charAt_3b067_12 : decode cJ1_charAt_3b067 12 = .ok (.iand, 1) := by decide +kernel
theorem dJ1_charAt_3b067_13 : decode cJ1_charAt_3b067 13 = .ok (.i2c, 1) := by decide +kernel
theorem dJ1_charAt_3b067_14 : decode cJ1_charAt_3b067 14 = .ok (.ireturn, 1) := by decide +kernel
abbrev mJ0_charAt_5068e : zM := (yJ0_charAt_5068e, cJ0_charAt_5068e, 2, (some .char), [])
theorem okJ0_charAt_5068e : zMok mJ0_charAt_5068e 1 := ⟨by decide, by decide, by decide +kernel⟩
theorem dJ0_charAt_5068e_0 : decode cJ0_charAt_5068e 0 = .ok (.aload_n 0, 1) := by decide +kernel
theorem dJ0_charAt_5068e_1 : decode cJ0_charAt_5068e 1 = .ok (.invokevirtual 492, 3) := by decide +kernel
theorem cw_RJ0_492 : zCwV RJ0 492 mJ0_isLatin1_aae02 := zall [331, 332, 333, 22, 334] (by decide +kernel) (by decide +kernel)
theorem dJ0_charAt_5068e_4 : decode cJ0_charAt_5068e 4 = .ok (.ifCond .eq 12, 3) := by decide +kernel
theorem dJ0_charAt_5068e_7 : decode cJ0_charAt_5068e 7 = .ok (.aload_n 0, 1) := by decide +kernel
theorem dJ0_charAt_5068e_8 : decode cJ0_charAt_5068e 8 = .ok (.getfield 9, 3) := by decide +kernel
theorem dJ0_charAt_5068e_11 : decode cJ0_charAt_5068e 11 = .ok (.iload_n 1, 1) := by decide +kernel
theorem dJ0_charAt_5068e_12 : decode cJ0_charAt_5068e 12 = .ok (.invokestatic 495, 3) := by decide +kernel
theorem cw_RJ0_495 : zCwS RJ0 495 mJ1_charAt_3b067 := zall [335, 336, 28, 337] (by decide +kernel) (by decide +kernel)
theorem dJ0_charAt_5068e_15 : decode cJ0_charAt_5068e 15 = .ok (.ireturn, 1) := by decide +kernel
abbrev mJ7_fill_53178 : zM := (yJ7_fill_53178, cJ7_fill_53178, 4, none, [])
theorem okJ7_fill_53178 : zMok mJ7_fill_53178 2 := ⟨by decide, by decide, by decide +kernel⟩
theorem dJ7_fill_53178_0 : decode cJ7_fill_53178 0 = .ok (.iconst 0, 1) := by decide +kernel
theorem dJ7_fill_53178_1 : decode cJ7_fill_53178 1 = .ok (.istore_n 2, 1) := by decide +kernel
theorem dJ7_fill_53178_2 : decode cJ7_fill_53178 2 = .ok (.aload_n 0, 1) := by decide +kernel
theorem dJ7_fill_53178_3 : decode cJ7_fill_53178 3 = .ok (.arraylength, 1) := by decide +kernel
theorem dJ7_fill_53178_4 : decode cJ7_fill_53178 4 = .ok (.istore_n 3, 1) := by decide +kernel
theorem dJ7_fill_53178_5 : decode cJ7_fill_53178 5 = .ok (.iload_n 2, 1) := by decide +kernel
theorem dJ7_fill_53178_6 : decode cJ7_fill_53178 6 = .ok (.iload_n 3, 1) := by decide +kernel
theorem dJ7_fill_53178_7 : decode cJ7_fill_53178 7 = .ok (.if_icmp .ge 13, 3) := by decide +kernel
theorem dJ7_fill_53178_20 : decode cJ7_fill_53178 20 = .ok (.return_, 1) := by decide +kernel
theorem dJ7_fill_53178_10 : decode cJ7_fill_53178 10 = .ok (.aload_n 0, 1) := by decide +kernel
theorem dJ7_fill_53178_11 : decode cJ7_fill_53178 11 = .ok (.iload_n 2, 1) := by decide +kernel
theorem dJ7_fill_53178_12 : decode cJ7_fill_53178 12 = .ok (.iload_n 1, 1) := by decide +kernel
theorem dJ7_fill_53178_13 : decode cJ7_fill_53178 13 = .ok (.iastore, 1) := by decide +kernel
theorem dJ7_fill_53178_14 : decode cJ7_fill_53178 14 = .ok (.iinc 2 1, 3) := by decide +kernel
theorem dJ7_fill_53178_17 : decode cJ7_fill_53178 17 = .ok (.goto (-12), 3) := by decide +kernel
abbrev mX2_add : zM := (yX2_add, cX2_add, 6, none, [])
theorem okX2_add : zMok mX2_add 4 := ⟨by decide, by decide, by decide +kernel⟩
theorem dX2_add_0 : decode cX2_add 0 = .ok (.aload_n 0, 1) := by decide +kernel
theorem dX2_add_1 : decode cX2_add 1 = .ok (.invokevirtual 44, 3) := by decide +kernel
theorem cw_RX2_44 : zCwV RX2 44 mX2_isFull := zall [502, 431, 432, 36, 433] (by decide +kernel) (by decide +kernel)
theorem dX2_add_4 : decode cX2_add 4 = .ok (.ifCond .eq 4, 3) := by decide +kernel
theorem dX2_add_8 : decode cX2_add 8 = .ok (.aload_n 0, 1) := by decide +kernel
theorem dX2_add_9 : decode cX2_add 9 = .ok (.getfield 15, 3) := by decide +kernel
theorem dX2_add_12 : decode cX2_add 12 = .ok (.aload_n 0, 1) := by decide +kernel
theorem dX2_add_13 : decode cX2_add 13 = .ok (.getfield 9, 3) := by decide +kernel
theorem dX2_add_16 : decode cX2_add 16 = .ok (.iload_n 1, 1) := by decide +kernel
theorem dX2_add_17 : decode cX2_add 17 = .ok (.iastore, 1) := by decide +kernel
theorem dX2_add_18 : decode cX2_add 18 = .ok (.aload_n 0, 1) := by decide +kernel
theorem dX2_add_19 : decode cX2_add 19 = .ok (.getfield 19, 3) := by decide +kernel
theorem fl_RX2_19 : zFl RX2 19 2 2 := ⟨RX2, TX2, 8, rfl, by decide, zmem1 168 (by decide +kernel) rfl, rfl⟩
theorem dX2_add_22 : decode cX2_add 22 = .ok (.aload_n 0, 1) := by decide +kernel
theorem dX2_add_23 : decode cX2_add 23 = .ok (.getfield 9, 3) := by decide +kernel
theorem dX2_add_26 : decode cX2_add 26 = .ok (.iload_n 2, 1) := by decide +kernel
theorem dX2_add_27 : decode cX2_add 27 = .ok (.iastore, 1) := by decide +kernel
theorem dX2_add_28 : decode cX2_add 28 = .ok (.aload_n 0, 1) := by decide +kernel
theorem dX2_add_29 : decode cX2_add 29 = .ok (.getfield 22, 3) := by decide +kernel
theorem fl_RX2_22 : zFl RX2 22 2 3 := ⟨RX2, TX2, 8, rfl, by decide, zmem1 171 (by decide +kernel) rfl, rfl⟩
theorem dX2_add_32 : decode cX2_add 32 = .ok (.aload_n 0, 1) := by decide +kernel
theorem dX2_add_33 : decode cX2_add 33 = .ok (.getfield 9, 3) := by decide +kernel
theorem dX2_add_36 : decode cX2_add 36 = .ok (.iload_n 3, 1) := by decide +kernel
theorem dX2_add_37 : decode cX2_add 37 = .ok (.iastore, 1) := by decide +kernel
theorem dX2_add_38 : decode cX2_add 38 = .ok (.aload_n 0, 1) := by decide +kernel
theorem dX2_add_39 : decode cX2_add 39 = .ok (.getfield 25, 3) := by decide +kernel
theorem fl_RX2_25 : zFl RX2 25 2 4 := ⟨RX2, TX2, 8, rfl, by decide, zmem1 174 (by decide +kernel) rfl, rfl⟩
theorem dX2_add_42 : decode cX2_add 42 = .ok (.aload_n 0, 1) := by decide +kernel
theorem dX2_add_43 : decode cX2_add 43 = .ok (.getfield 9, 3) := by decide +kernel
theorem dX2_add_46 : decode cX2_add 46 = .ok (.iload 4, 2) := by decide +kernel
theorem dX2_add_48 : decode cX2_add 48 = .ok (.iastore, 1) := by decide +kernel
theorem dX2_add_49 : decode cX2_add 49 = .ok (.aload_n 0, 1) := by decide +kernel
theorem dX2_add_50 : decode cX2_add 50 = .ok (.getfield 28, 3) := by decide +kernel
theorem dX2_add_53 : decode cX2_add 53 = .ok (.aload_n 0, 1) := by decide +kernel
theorem dX2_add_54 : decode cX2_add 54 = .ok (.getfield 9, 3) := by decide +kernel
theorem dX2_add_57 : decode cX2_add 57 = .ok (.iconst 0, 1) := by decide +kernel
theorem dX2_add_58 : decode cX2_add 58 = .ok (.bastore, 1) := by decide +kernel
theorem dX2_add_59 : decode cX2_add 59 = .ok (.aload_n 0, 1) := by decide +kernel
theorem dX2_add_60 : decode cX2_add 60 = .ok (.getfield 32, 3) := by decide +kernel
theorem dX2_add_63 : decode cX2_add 63 = .ok (.aload_n 0, 1) := by decide +kernel
theorem dX2_add_64 : decode cX2_add 64 = .ok (.getfield 9, 3) := by decide +kernel
theorem dX2_add_67 : decode cX2_add 67 = .ok (.iconst 0, 1) := by decide +kernel
theorem dX2_add_68 : decode cX2_add 68 = .ok (.bastore, 1) := by decide +kernel
theorem dX2_add_69 : decode cX2_add 69 = .ok (.aload_n 0, 1) := by decide +kernel
theorem dX2_add_70 : decode cX2_add 70 = .ok (.getfield 9, 3) := by decide +kernel
theorem dX2_add_73 : decode cX2_add 73 = .ok (.istore 5, 2) := by decide +kernel
theorem dX2_add_75 : decode cX2_add 75 = .ok (.iload 5, 2) := by decide +kernel
theorem dX2_add_77 : decode cX2_add 77 = .ok (.ifCond .le 37, 3) := by decide +kernel
theorem dX2_add_114 : decode cX2_add 114 = .ok (.aload_n 0, 1) := by decide +kernel
theorem dX2_add_115 : decode cX2_add 115 = .ok (.getfield 35, 3) := by decide +kernel
theorem dX2_add_118 : decode cX2_add 118 = .ok (.iload 5, 2) := by decide +kernel
theorem dX2_add_120 : decode cX2_add 120 = .ok (.aload_n 0, 1) := by decide +kernel
theorem dX2_add_121 : decode cX2_add 121 = .ok (.getfield 9, 3) := by decide +kernel
theorem dX2_add_124 : decode cX2_add 124 = .ok (.iastore, 1) := by decide +kernel
theorem dX2_add_125 : decode cX2_add 125 = .ok (.aload_n 0, 1) := by decide +kernel
theorem dX2_add_126 : decode cX2_add 126 = .ok (.dup, 1) := by decide +kernel
theorem dX2_add_127 : decode cX2_add 127 = .ok (.getfield 9, 3) := by decide +kernel
theorem dX2_add_130 : decode cX2_add 130 = .ok (.iconst 1, 1) := by decide +kernel
theorem dX2_add_131 : decode cX2_add 131 = .ok (.iadd, 1) := by decide +kernel
theorem dX2_add_132 : decode cX2_add 132 = .ok (.putfield 9, 3) := by decide +kernel
theorem fp_2_0 : zFi 2 0 "I" := ⟨RX2, TX2, 8, rfl, rfl, rfl⟩
theorem dX2_add_135 : decode cX2_add 135 = .ok (.return_, 1) := by decide +kernel
theorem dX2_add_80 : decode cX2_add 80 = .ok (.aload_n 0, 1) := by decide +kernel
theorem dX2_add_81 : decode cX2_add 81 = .ok (.iload 5, 2) := by decide +kernel
theorem dX2_add_83 : decode cX2_add 83 = .ok (.iconst 1, 1) := by decide +kernel
theorem dX2_add_84 : decode cX2_add 84 = .ok (.isub, 1) := by decide +kernel
theorem dX2_add_85 : decode cX2_add 85 = .ok (.invokevirtual 48, 3) := by decide +kernel
theorem cw_RX2_48 : zCwV RX2 48 mX2_pageAt := zall [503, 505, 6, 36, 506] (by decide +kernel) (by decide +kernel)
theorem dX2_add_88 : decode cX2_add 88 = .ok (.iload_n 1, 1) := by decide +kernel
theorem dX2_add_89 : decode cX2_add 89 = .ok (.if_icmp .ge 25, 3) := by decide +kernel
theorem dX2_add_92 : decode cX2_add 92 = .ok (.aload_n 0, 1) := by decide +kernel
theorem dX2_add_93 : decode cX2_add 93 = .ok (.getfield 35, 3) := by decide +kernel
theorem dX2_add_96 : decode cX2_add 96 = .ok (.iload 5, 2) := by decide +kernel
theorem dX2_add_98 : decode cX2_add 98 = .ok (.aload_n 0, 1) := by decide +kernel
theorem dX2_add_99 : decode cX2_add 99 = .ok (.getfield 35, 3) := by decide +kernel
theorem dX2_add_102 : decode cX2_add 102 = .ok (.iload 5, 2) := by decide +kernel
theorem dX2_add_104 : decode cX2_add 104 = .ok (.iconst 1, 1) := by decide +kernel
theorem dX2_add_105 : decode cX2_add 105 = .ok (.isub, 1) := by decide +kernel
theorem dX2_add_106 : decode cX2_add 106 = .ok (.iaload, 1) := by decide +kernel
theorem dX2_add_107 : decode cX2_add 107 = .ok (.iastore, 1) := by decide +kernel
theorem dX2_add_108 : decode cX2_add 108 = .ok (.iinc 5 (-1), 3) := by decide +kernel
theorem dX2_add_111 : decode cX2_add 111 = .ok (.goto (-36), 3) := by decide +kernel
abbrev mX2_learn : zM := (yX2_learn, cX2_learn, 5, none, [])
theorem okX2_learn : zMok mX2_learn 1 := ⟨by decide, by decide, by decide +kernel⟩
theorem dX2_learn_0 : decode cX2_learn 0 = .ok (.iload_n 1, 1) := by decide +kernel
theorem dX2_learn_1 : decode cX2_learn 1 = .ok (.istore_n 2, 1) := by decide +kernel
theorem dX2_learn_2 : decode cX2_learn 2 = .ok (.iconst 0, 1) := by decide +kernel
theorem dX2_learn_3 : decode cX2_learn 3 = .ok (.istore_n 3, 1) := by decide +kernel
theorem dX2_learn_4 : decode cX2_learn 4 = .ok (.iload_n 3, 1) := by decide +kernel
theorem dX2_learn_5 : decode cX2_learn 5 = .ok (.aload_n 0, 1) := by decide +kernel
theorem dX2_learn_6 : decode cX2_learn 6 = .ok (.getfield 9, 3) := by decide +kernel
theorem dX2_learn_9 : decode cX2_learn 9 = .ok (.if_icmp .ge 41, 3) := by decide +kernel
theorem dX2_learn_50 : decode cX2_learn 50 = .ok (.return_, 1) := by decide +kernel
theorem dX2_learn_12 : decode cX2_learn 12 = .ok (.iload_n 2, 1) := by decide +kernel
theorem dX2_learn_13 : decode cX2_learn 13 = .ok (.ifCond .le 37, 3) := by decide +kernel
theorem dX2_learn_16 : decode cX2_learn 16 = .ok (.aload_n 0, 1) := by decide +kernel
theorem dX2_learn_17 : decode cX2_learn 17 = .ok (.getfield 35, 3) := by decide +kernel
theorem dX2_learn_20 : decode cX2_learn 20 = .ok (.iload_n 3, 1) := by decide +kernel
theorem dX2_learn_21 : decode cX2_learn 21 = .ok (.iaload, 1) := by decide +kernel
theorem dX2_learn_22 : decode cX2_learn 22 = .ok (.istore 4, 2) := by decide +kernel
theorem dX2_learn_24 : decode cX2_learn 24 = .ok (.aload_n 0, 1) := by decide +kernel
theorem dX2_learn_25 : decode cX2_learn 25 = .ok (.iload 4, 2) := by decide +kernel
theorem dX2_learn_27 : decode cX2_learn 27 = .ok (.invokevirtual 59, 3) := by decide +kernel
theorem dX2_learn_30 : decode cX2_learn 30 = .ok (.ifCond .eq 14, 3) := by decide +kernel
theorem dX2_learn_44 : decode cX2_learn 44 = .ok (.iinc 3 1, 3) := by decide +kernel
theorem dX2_learn_47 : decode cX2_learn 47 = .ok (.goto (-43), 3) := by decide +kernel
theorem dX2_learn_33 : decode cX2_learn 33 = .ok (.aload_n 0, 1) := by decide +kernel
theorem dX2_learn_34 : decode cX2_learn 34 = .ok (.getfield 28, 3) := by decide +kernel
theorem dX2_learn_37 : decode cX2_learn 37 = .ok (.iload 4, 2) := by decide +kernel
theorem dX2_learn_39 : decode cX2_learn 39 = .ok (.iconst 1, 1) := by decide +kernel
theorem dX2_learn_40 : decode cX2_learn 40 = .ok (.bastore, 1) := by decide +kernel
theorem dX2_learn_41 : decode cX2_learn 41 = .ok (.iinc 2 (-1), 3) := by decide +kernel

theorem zshr0 {a : Int} (h : zr a) : zshr a 0 = a := by
  unfold zshr
  have : Int32.ofInt a >>> (Int32.ofInt 0 &&& 31) = Int32.ofInt a := by
    have e : (Int32.ofInt 0 &&& 31) = 0 := by decide
    rw [e]
    simp
  rw [this, z_toInt h]
theorem zsl_lt (j : Nat) : zslen.getD j 0 < 1000 := by
  have hl : ∀ x ∈ zslen, x < 1000 := by decide +kernel
  rw [List.getD_eq_getElem?_getD]
  cases hx : zslen[j]? with
  | none => simp
  | some x => exact hl x (List.mem_of_getElem? hx)
theorem zsl_r (j : Nat) : zr ((zslen.getD j 0 : Nat) : Int) := by
  have := zsl_lt j
  unfold zr; omega
theorem zch_ok (j i : Nat) : zc16 (zand ((zsbyt.getD j []).getD i 0).toInt 255) = ((zsbyt.getD j []).getD i 0).toInt ∧ narrow .char (.int (Int32.ofInt ((zsbyt.getD j []).getD i 0).toInt)) = .int (Int32.ofInt ((zsbyt.getD j []).getD i 0).toInt) := by
  have hl : ∀ l ∈ zsbyt, ∀ x ∈ l, zc16 (zand x.toInt 255) = x.toInt ∧ 0 ≤ x.toInt ∧ x.toInt < 128 := by decide +kernel
  have h0 : zc16 (zand (0 : Int32).toInt 255) = (0 : Int32).toInt ∧ 0 ≤ (0 : Int32).toInt ∧ (0 : Int32).toInt < 128 := by decide +kernel
  have key : ∀ x : Int32, (zc16 (zand x.toInt 255) = x.toInt ∧ 0 ≤ x.toInt ∧ x.toInt < 128) → zc16 (zand x.toInt 255) = x.toInt ∧ narrow .char (.int (Int32.ofInt x.toInt)) = .int (Int32.ofInt x.toInt) := by
    intro x hx
    refine ⟨hx.1, ?_⟩
    rw [z_nat hx.2.1]
    exact (pk_charN (by omega)).1
  apply key
  rw [List.getD_eq_getElem?_getD, List.getD_eq_getElem?_getD]
  cases hx : zsbyt[j]? with
  | none => simpa using h0
  | some l =>
    cases hy : l[i]? with
    | none => simpa [hy] using h0
    | some y => simpa [hy] using hl l (List.mem_of_getElem? hx) y (List.mem_of_getElem? hy)
theorem zsb_mono (P : Nat → Prop) {a b : Nat} (h : a ≤ b) : zs (fun j => zb (P j)) a ≤ zs (fun j => zb (P j)) b := by
  induction h with
  | refl => exact Int.le_refl _
  | step h ih =>
    rw [zs_s]
    rcases zb_01 (P _) with e | e <;> rw [e] <;> omega
def addR (σ τ : zS) (c : Nat) (pg kd vl wt : Int) : Prop :=
  zOK τ ∧ zSame (fun q => c ≤ q ∧ q ≤ c + 7) σ τ ∧ τ.1 c 0 = σ.1 c 0 + 1 ∧ (∀ i : Nat, τ.1 (c + 1) i = if (i : Int) = σ.1 c 0 then pg else σ.1 (c + 1) i) ∧ (∀ i : Nat, τ.1 (c + 2) i = if (i : Int) = σ.1 c 0 then kd else σ.1 (c + 2) i) ∧ (∀ i : Nat, τ.1 (c + 3) i = if (i : Int) = σ.1 c 0 then vl else σ.1 (c + 3) i) ∧ (∀ i : Nat, τ.1 (c + 4) i = if (i : Int) = σ.1 c 0 then wt else σ.1 (c + 4) i) ∧ (∀ i : Nat, τ.1 (c + 5) i = if (i : Int) = σ.1 c 0 then 0 else σ.1 (c + 5) i) ∧ (∀ i : Nat, τ.1 (c + 6) i = if (i : Int) = σ.1 c 0 then 0 else σ.1 (c + 6) i) ∧
  ∃ j : Nat, (j : Int) ≤ σ.1 c 0 ∧ τ.1 (c + 7) j = σ.1 c 0 ∧ (∀ i, i < j → τ.1 (c + 7) i = σ.1 (c + 7) i) ∧ (∀ i, j ≤ i → (i : Int) < σ.1 c 0 → τ.1 (c + 7) (i + 1) = σ.1 (c + 7) i ∧ σ.1 (c + 1) (σ.1 (c + 7) i).toNat < pg) ∧ (0 < j → pg ≤ σ.1 (c + 1) (σ.1 (c + 7) (j - 1)).toNat)

set_option maxRecDepth 20000 in
set_option maxHeartbeats 2000000 in
theorem sJ0_coder_7d493 {l : Launch} {w : zW} (hfl : l.stackTraces = false) {σ : zS} {j : Nat} (hz : zOK σ)  : Sp l w mJ0_coder_7d493 0 0 [zf 100 j] σ (zret (zi 0) σ) := by
  obtain ⟨Q, hQ⟩ : ∃ Q : zQ, Q = (zret (zi 0) σ) := ⟨_, rfl⟩
  rw [← hQ]
  refine zx_enter hfl (by decide) rfl 0 rfl ?_
  show zX l w mJ0_coder_7d493 (zMQ w 0 0 Q) 0 [zf 100 j] [] 0 σ
  refine zx_compact fs_RJ0_38 dJ0_coder_7d493_0 ?_
  refine zx_if_eq (tgt := 13) (by unfold zr; omega) dJ0_coder_7d493_3 (by decide) (fun h3 => ?_) (fun h3 => ?_)
  · exact absurd h3 (by decide)
  · refine zx_aloadN dJ0_coder_7d493_6 rfl rfl ?_
    refine zx_strC fs_RJ0_15 dJ0_coder_7d493_7 ?_
    refine zx_goto (tgt := 14) dJ0_coder_7d493_10 (by decide) ?_
    refine zx_iret rfl (by rfl) dJ0_coder_7d493_14 ?_
    rw [hQ]
    refine ⟨congrArg (fun z : Int => (Sum.inl (some (zi z)) : Option zV ⊕ String)) ?_, by first | rfl | (exfalso; omega)⟩
    first | rfl | omega | (split <;> first | rfl | omega)
set_option maxRecDepth 20000 in
set_option maxHeartbeats 2000000 in
theorem sJ0_isLatin1_aae02 {l : Launch} {w : zW} (hfl : l.stackTraces = false) {σ : zS} {j : Nat} (hz : zOK σ)  : Sp l w mJ0_isLatin1_aae02 0 0 [zf 100 j] σ (zret (zi 1) σ) := by
  obtain ⟨Q, hQ⟩ : ∃ Q : zQ, Q = (zret (zi 1) σ) := ⟨_, rfl⟩
  rw [← hQ]
  refine zx_enter hfl (by decide) rfl 0 rfl ?_
  show zX l w mJ0_isLatin1_aae02 (zMQ w 0 0 Q) 0 [zf 100 j] [] 0 σ
  refine zx_compact fs_RJ0_38 dJ0_isLatin1_aae02_0 ?_
  refine zx_if_eq (tgt := 17) (by unfold zr; omega) dJ0_isLatin1_aae02_3 (by decide) (fun h3 => ?_) (fun h3 => ?_)
  · exact absurd h3 (by decide)
  · refine zx_aloadN dJ0_isLatin1_aae02_6 rfl rfl ?_
    refine zx_strC fs_RJ0_15 dJ0_isLatin1_aae02_7 ?_
    refine zx_if_ne (tgt := 17) (by unfold zr; omega) dJ0_isLatin1_aae02_10 (by decide) (fun h10 => ?_) (fun h10 => ?_)
    · exact absurd h10 (by decide)
    · refine zx_iconst dJ0_isLatin1_aae02_13 ?_
      refine zx_goto (tgt := 18) dJ0_isLatin1_aae02_14 (by decide) ?_
      refine zx_iret rfl rfl dJ0_isLatin1_aae02_18 ?_
      rw [hQ]
      refine ⟨congrArg (fun z : Int => (Sum.inl (some (zi z)) : Option zV ⊕ String)) ?_, by first | rfl | (exfalso; omega)⟩
      first | rfl | omega | (split <;> first | rfl | omega)
set_option maxRecDepth 20000 in
set_option maxHeartbeats 2000000 in
theorem sJ0_length_8abf5 {l : Launch} {w : zW} (hfl : l.stackTraces = false) {σ : zS} {j : Nat} (hz : zOK σ)  : Sp l w mJ0_length_8abf5 1 0 [zf 100 j] σ (zret (zi ((zslen.getD j 0 : Nat) : Int)) σ) := by
  obtain ⟨Q, hQ⟩ : ∃ Q : zQ, Q = (zret (zi ((zslen.getD j 0 : Nat) : Int)) σ) := ⟨_, rfl⟩
  rw [← hQ]
  refine zx_enter hfl (by decide) rfl 0 rfl ?_
  show zX l w mJ0_length_8abf5 (zMQ w 1 0 Q) 0 [zf 100 j] [] 0 σ
  refine zx_aloadN dJ0_length_8abf5_0 rfl rfl ?_
  refine zx_strV fs_RJ0_9 dJ0_length_8abf5_1 ?_
  refine zx_strL dJ0_length_8abf5_4 ?_
  refine zx_aloadN dJ0_length_8abf5_5 rfl rfl ?_
  refine zy_str [] (sJ0_coder_7d493  hfl hz ) dJ0_length_8abf5_6 rfl cw_RJ0_335 okJ0_coder_7d493 rfl (Nat.le_of_ble_eq_true rfl) ⟨Nat.le_of_ble_eq_true rfl, Nat.le_of_ble_eq_true rfl, Nat.le_of_ble_eq_true rfl, Nat.le_of_ble_eq_true rfl⟩ ?_
  refine zx_ishr dJ0_length_8abf5_9 ?_
  refine zx_iret rfl rfl dJ0_length_8abf5_10 ?_
  rw [hQ]
  refine ⟨congrArg (fun z : Int => (Sum.inl (some (zi z)) : Option zV ⊕ String)) ?_, by first | rfl | (exfalso; omega)⟩
  exact zshr0 (zsl_r j)
set_option maxRecDepth 20000 in
set_option maxHeartbeats 2000000 in
theorem sJ3a {l : Launch} {w : zW} (hfl : l.stackTraces = false) {σ : zS} {x n : Int} (hz : zOK σ) (hx : zr x) (hn : zr n) (hb : 0 ≤ x ∧ x < n) : Sp l w mJ3_checkIndex_8e157 0 0 [zi x, zi n, .inr (.inr .null)] σ (zret (zi x) σ) := by
  obtain ⟨Q, hQ⟩ : ∃ Q : zQ, Q = (zret (zi x) σ) := ⟨_, rfl⟩
  rw [← hQ]
  refine zx_enter hfl (by decide) rfl 0 rfl ?_
  show zX l w mJ3_checkIndex_8e157 (zMQ w 0 0 Q) 0 [zi x, zi n, .inr (.inr .null)] [] 0 σ
  refine zx_iloadN dJ3_checkIndex_8e157_0 rfl rfl ?_
  refine zx_if_lt (tgt := 9) (by first | exact hz _ _ | assumption | exact zr_b _ | exact zcmp_r _ _ | (unfold zr at *; omega)) dJ3_checkIndex_8e157_1 (by decide) (fun h1 => ?_) (fun h1 => ?_)
  · exfalso; omega
  · refine zx_iloadN dJ3_checkIndex_8e157_4 rfl rfl ?_
    refine zx_iloadN dJ3_checkIndex_8e157_5 rfl rfl ?_
    refine zx_icmp_lt (tgt := 16) (by first | exact hz _ _ | assumption | exact zr_b _ | exact zcmp_r _ _ | (unfold zr at *; omega)) (by first | exact hz _ _ | assumption | exact zr_b _ | exact zcmp_r _ _ | (unfold zr at *; omega)) dJ3_checkIndex_8e157_6 (by decide) (fun h6 => ?_) (fun h6 => ?_)
    · refine zx_iloadN dJ3_checkIndex_8e157_16 rfl rfl ?_
      refine zx_iret rfl rfl dJ3_checkIndex_8e157_17 ?_
      rw [hQ]
      refine ⟨congrArg (fun z : Int => (Sum.inl (some (zi z)) : Option zV ⊕ String)) ?_, by first | rfl | (exfalso; omega)⟩
      first | rfl | omega | (split <;> first | rfl | omega)
    · exfalso; omega
set_option maxRecDepth 20000 in
set_option maxHeartbeats 2000000 in
theorem sJ3b {l : Launch} {w : zW} (hfl : l.stackTraces = false) {σ : zS} {x n : Int} {t : Nat} (hz : zOK σ) (hx : zr x) (hn : zr n) (hb : 0 ≤ x ∧ x < n) : Sp l w mJ3_checkIndex_8e157 0 0 [zi x, zi n, .inr (.inr (.ref t))] σ (zret (zi x) σ) := by
  obtain ⟨Q, hQ⟩ : ∃ Q : zQ, Q = (zret (zi x) σ) := ⟨_, rfl⟩
  rw [← hQ]
  refine zx_enter hfl (by decide) rfl 0 rfl ?_
  show zX l w mJ3_checkIndex_8e157 (zMQ w 0 0 Q) 0 [zi x, zi n, .inr (.inr (.ref t))] [] 0 σ
  refine zx_iloadN dJ3_checkIndex_8e157_0 rfl rfl ?_
  refine zx_if_lt (tgt := 9) (by first | exact hz _ _ | assumption | exact zr_b _ | exact zcmp_r _ _ | (unfold zr at *; omega)) dJ3_checkIndex_8e157_1 (by decide) (fun h1 => ?_) (fun h1 => ?_)
  · exfalso; omega
  · refine zx_iloadN dJ3_checkIndex_8e157_4 rfl rfl ?_
    refine zx_iloadN dJ3_checkIndex_8e157_5 rfl rfl ?_
    refine zx_icmp_lt (tgt := 16) (by first | exact hz _ _ | assumption | exact zr_b _ | exact zcmp_r _ _ | (unfold zr at *; omega)) (by first | exact hz _ _ | assumption | exact zr_b _ | exact zcmp_r _ _ | (unfold zr at *; omega)) dJ3_checkIndex_8e157_6 (by decide) (fun h6 => ?_) (fun h6 => ?_)
    · refine zx_iloadN dJ3_checkIndex_8e157_16 rfl rfl ?_
      refine zx_iret rfl rfl dJ3_checkIndex_8e157_17 ?_
      rw [hQ]
      refine ⟨congrArg (fun z : Int => (Sum.inl (some (zi z)) : Option zV ⊕ String)) ?_, by first | rfl | (exfalso; omega)⟩
      first | rfl | omega | (split <;> first | rfl | omega)
    · exfalso; omega
set_option maxRecDepth 20000 in
set_option maxHeartbeats 2000000 in
theorem sJ0_checkIndex_df160 {l : Launch} {w : zW} (hfl : l.stackTraces = false) {σ : zS} {x n : Int} (hz : zOK σ) (hx : zr x) (hn : zr n) (hb : 0 ≤ x ∧ x < n) : Sp l w mJ0_checkIndex_df160 1 0 [zi x, zi n] σ (zrtv σ) := by
  obtain ⟨Q, hQ⟩ : ∃ Q : zQ, Q = (zrtv σ) := ⟨_, rfl⟩
  rw [← hQ]
  refine zx_enter hfl (by decide) rfl 0 rfl ?_
  show zX l w mJ0_checkIndex_df160 (zMQ w 1 0 Q) 0 [zi x, zi n] [] 0 σ
  refine zx_iloadN dJ0_checkIndex_df160_0 rfl rfl ?_
  refine zx_iloadN dJ0_checkIndex_df160_1 rfl rfl ?_
  refine zx_fmt fs_RJ0_1053 dJ0_checkIndex_df160_2 ?_ (fun fm => ?_)
  · refine zy_cs [zi x, zi n, .inr (.inr .null)] (sJ3a  hfl hz (by first | exact hz _ _ | assumption | exact zr_b _ | exact zcmp_r _ _ | (unfold zr at *; omega)) (by first | exact hz _ _ | assumption | exact zr_b _ | exact zcmp_r _ _ | (unfold zr at *; omega)) (by first | assumption | omega)) dJ0_checkIndex_df160_5 cw_RJ0_1059 okJ3_checkIndex_8e157 rfl (Nat.le_of_ble_eq_true rfl) ⟨Nat.le_of_ble_eq_true rfl, Nat.le_of_ble_eq_true rfl, Nat.le_of_ble_eq_true rfl, Nat.le_of_ble_eq_true rfl⟩ ?_
    refine zx_pop rfl dJ0_checkIndex_df160_8 ?_
    refine zx_vret rfl dJ0_checkIndex_df160_9 ?_
    rw [hQ]
    exact ⟨rfl, by first | rfl | (exfalso; omega)⟩
  · refine zy_cs [zi x, zi n, .inr (.inr (.ref fm))] (sJ3b  hfl hz (by first | exact hz _ _ | assumption | exact zr_b _ | exact zcmp_r _ _ | (unfold zr at *; omega)) (by first | exact hz _ _ | assumption | exact zr_b _ | exact zcmp_r _ _ | (unfold zr at *; omega)) (by first | assumption | omega)) dJ0_checkIndex_df160_5 cw_RJ0_1059 okJ3_checkIndex_8e157 rfl (Nat.le_of_ble_eq_true rfl) ⟨Nat.le_of_ble_eq_true rfl, Nat.le_of_ble_eq_true rfl, Nat.le_of_ble_eq_true rfl, Nat.le_of_ble_eq_true rfl⟩ ?_
    refine zx_pop rfl dJ0_checkIndex_df160_8 ?_
    refine zx_vret rfl dJ0_checkIndex_df160_9 ?_
    rw [hQ]
    exact ⟨rfl, by first | rfl | (exfalso; omega)⟩
set_option maxRecDepth 20000 in
set_option maxHeartbeats 2000000 in
theorem sJ1_charAt_3b067 {l : Launch} {w : zW} (hfl : l.stackTraces = false) {σ : zS} {j : Nat} {x : Int} (hz : zOK σ) (hb : 0 ≤ x ∧ x < ((zslen.getD j 0 : Nat) : Int)) : Sp l w mJ1_charAt_3b067 2 0 [zf 102 j, zi x] σ (zret (zi (((zsbyt.getD j []).getD x.toNat 0).toInt)) σ) := by
  obtain ⟨Q, hQ⟩ : ∃ Q : zQ, Q = (zret (zi (((zsbyt.getD j []).getD x.toNat 0).toInt)) σ) := ⟨_, rfl⟩
  rw [← hQ]
  refine zx_enter hfl (by decide) rfl 0 rfl ?_
  show zX l w mJ1_charAt_3b067 (zMQ w 2 0 Q) 0 [zf 102 j, zi x] [] 0 σ
  have hl := zsl_lt j
  have hx : zr x := by unfold zr; omega
  have hn := zsl_r j
  refine zx_iloadN dJ1_charAt_3b067_0 rfl rfl ?_
  refine zx_aloadN dJ1_charAt_3b067_1 rfl rfl ?_
  refine zx_strL dJ1_charAt_3b067_2 ?_
  refine zy_csv [zi x, zi ((zslen.getD j 0 : Nat) : Int)] (sJ0_checkIndex_df160  hfl hz (by first | exact hz _ _ | assumption | exact zr_b _ | exact zcmp_r _ _ | (unfold zr at *; omega)) (by first | exact hz _ _ | assumption | exact zr_b _ | exact zcmp_r _ _ | (unfold zr at *; omega)) (by first | assumption | omega)) dJ1_charAt_3b067_3 cw_RJ1_9 okJ0_checkIndex_df160 rfl (Nat.le_of_ble_eq_true rfl) ⟨Nat.le_of_ble_eq_true rfl, Nat.le_of_ble_eq_true rfl, Nat.le_of_ble_eq_true rfl, Nat.le_of_ble_eq_true rfl⟩ ?_
  refine zx_aloadN dJ1_charAt_3b067_6 rfl rfl ?_
  refine zx_iloadN dJ1_charAt_3b067_7 rfl rfl ?_
  refine zx_strB (by omega) (by omega) (by omega) dJ1_charAt_3b067_8 ?_
  refine zx_sipush dJ1_charAt_3b067_9 rfl ?_
  refine zx_iand dJ1_charAt_3b067_12 ?_
  refine zx_i2c dJ1_charAt_3b067_13 ?_
  refine zx_iret rfl (by rw [(zch_ok j _).1]; exact (zch_ok j _).2) dJ1_charAt_3b067_14 ?_
  rw [hQ]
  refine ⟨congrArg (fun z : Int => (Sum.inl (some (zi z)) : Option zV ⊕ String)) ?_, by first | rfl | (exfalso; omega)⟩
  exact (zch_ok j _).1
set_option maxRecDepth 20000 in
set_option maxHeartbeats 2000000 in
theorem sJ0_charAt_5068e {l : Launch} {w : zW} (hfl : l.stackTraces = false) {σ : zS} {j : Nat} {x : Int} (hz : zOK σ) (hb : 0 ≤ x ∧ x < ((zslen.getD j 0 : Nat) : Int)) : Sp l w mJ0_charAt_5068e 3 0 [zf 100 j, zi x] σ (zret (zi (((zsbyt.getD j []).getD x.toNat 0).toInt)) σ) := by
  obtain ⟨Q, hQ⟩ : ∃ Q : zQ, Q = (zret (zi (((zsbyt.getD j []).getD x.toNat 0).toInt)) σ) := ⟨_, rfl⟩
  rw [← hQ]
  refine zx_enter hfl (by decide) rfl 0 rfl ?_
  show zX l w mJ0_charAt_5068e (zMQ w 3 0 Q) 0 [zf 100 j, zi x] [] 0 σ
  refine zx_aloadN dJ0_charAt_5068e_0 rfl rfl ?_
  refine zy_str [] (sJ0_isLatin1_aae02  hfl hz ) dJ0_charAt_5068e_1 rfl cw_RJ0_492 okJ0_isLatin1_aae02 rfl (Nat.le_of_ble_eq_true rfl) ⟨Nat.le_of_ble_eq_true rfl, Nat.le_of_ble_eq_true rfl, Nat.le_of_ble_eq_true rfl, Nat.le_of_ble_eq_true rfl⟩ ?_
  refine zx_if_eq (tgt := 16) (by unfold zr; omega) dJ0_charAt_5068e_4 (by decide) (fun h4 => ?_) (fun h4 => ?_)
  · exact absurd h4 (by decide)
  · refine zx_aloadN dJ0_charAt_5068e_7 rfl rfl ?_
    refine zx_strV fs_RJ0_9 dJ0_charAt_5068e_8 ?_
    refine zx_iloadN dJ0_charAt_5068e_11 rfl rfl ?_
    refine zy_cs [zf 102 j, zi x] (sJ1_charAt_3b067  hfl hz (by first | assumption | omega)) dJ0_charAt_5068e_12 cw_RJ0_495 okJ1_charAt_3b067 rfl (Nat.le_of_ble_eq_true rfl) ⟨Nat.le_of_ble_eq_true rfl, Nat.le_of_ble_eq_true rfl, Nat.le_of_ble_eq_true rfl, Nat.le_of_ble_eq_true rfl⟩ ?_
    refine zx_iret rfl (by exact (zch_ok j _).2) dJ0_charAt_5068e_15 ?_
    rw [hQ]
    refine ⟨congrArg (fun z : Int => (Sum.inl (some (zi z)) : Option zV ⊕ String)) ?_, by first | rfl | (exfalso; omega)⟩
    first | rfl | omega | (split <;> first | rfl | omega)
set_option maxRecDepth 20000 in
set_option maxHeartbeats 2000000 in
theorem sJ7_fill_53178 {l : Launch} {w : zW} (hfl : l.stackTraces = false) {σ : zS} {q : Nat} {v : Int} (hz : zOK σ) (hv : zr v) : Sp l w mJ7_fill_53178 0 0 [zf 27 q, zi v] σ (zqv (none) (fun τ => zOK τ ∧ zSame (fun q2 => q2 = q) σ τ ∧ ∀ i : Nat, i < 551 → τ.1 q i = v)) := by
  obtain ⟨Q, hQ⟩ : ∃ Q : zQ, Q = (zqv (none) (fun τ => zOK τ ∧ zSame (fun q2 => q2 = q) σ τ ∧ ∀ i : Nat, i < 551 → τ.1 q i = v)) := ⟨_, rfl⟩
  rw [← hQ]
  refine zx_enter hfl (by decide) rfl 2 rfl ?_
  show zX l w mJ7_fill_53178 (zMQ w 0 0 Q) 0 [zf 27 q, zi v, zu, zu] [] 0 σ
  refine zx_iconst dJ7_fill_53178_0 ?_
  refine zy_istoreN [zf 27 q, zi v, zi 0, zu] dJ7_fill_53178_1 rfl (Nat.le_of_ble_eq_true rfl) (Nat.le_of_ble_eq_true rfl) rfl rfl ?_
  refine zx_aloadN dJ7_fill_53178_2 rfl rfl ?_
  refine zx_alen (kd := 0) (n := 551) rfl (by decide) (by decide) (by decide) dJ7_fill_53178_3 ?_
  refine zy_istoreN [zf 27 q, zi v, zi 0, zi 551] dJ7_fill_53178_4 rfl (Nat.le_of_ble_eq_true rfl) (Nat.le_of_ble_eq_true rfl) rfl rfl ?_
  have L5 : ∀ (N : Nat) (τ : zS) (i : Nat), (zOK τ) → (i ≤ 551) → (zSame (fun q2 => q2 = q) σ τ) → (∀ j, j < i → τ.1 q j = v) → (552 - i) < N → zX l w mJ7_fill_53178 (zMQ w 0 0 Q) 5 [zf 27 q, zi v, zi ((i : Nat) : Int), zi 551] [] 0 τ := by
    intro N
    induction N with
    | zero => intro τ i _ _ _ _ _; exact absurd (by assumption) (Nat.not_lt_zero _)
    | succ N ih5 =>
      intro τ i hz hi h1 h2 hN
      refine zx_iloadN dJ7_fill_53178_5 rfl rfl ?_
      refine zx_iloadN dJ7_fill_53178_6 rfl rfl ?_
      refine zx_icmp_ge (tgt := 20) (by first | exact hz _ _ | assumption | exact zr_b _ | exact zcmp_r _ _ | (unfold zr at *; omega)) (by first | exact hz _ _ | assumption | exact zr_b _ | exact zcmp_r _ _ | (unfold zr at *; omega)) dJ7_fill_53178_7 (by decide) (fun h7 => ?_) (fun h7 => ?_)
      · refine zx_vret rfl dJ7_fill_53178_20 ?_
        rw [hQ]
        refine ⟨rfl, ?_⟩
        exact ⟨hz, h1, fun j hj => h2 j (by omega)⟩
      · refine zx_aloadN dJ7_fill_53178_10 rfl rfl ?_
        refine zx_iloadN dJ7_fill_53178_11 rfl rfl ?_
        refine zx_iloadN dJ7_fill_53178_12 rfl rfl ?_
        refine zy_iast (i := i) rfl (by decide) (by decide) dJ7_fill_53178_13 (by omega) (by omega) rfl ?_
        refine zy_iinc (b := ((i + 1 : Nat) : Int)) [zf 27 q, zi v, zi ((i + 1 : Nat) : Int), zi 551] dJ7_fill_53178_14 rfl (by omega) (Nat.le_of_ble_eq_true rfl) rfl rfl ?_
        refine zx_goto (tgt := 5) dJ7_fill_53178_17 (by decide) ?_
        exact ih5 (zput τ q i v) (i + 1) (zOK_put hz (by first | exact hz _ _ | assumption | exact zr_b _ | exact zcmp_r _ _ | (unfold zr at *; omega))) (by first | assumption | omega) ⟨fun k hk j => by have hk2 := hk; dsimp only at hk2; exact (zput_k _ _ _ _ _ (by omega)).trans (h1.1 k hk j), h1.2⟩ (fun j hj => by have := h2 j; simp only [zput_e, true_and, and_true, ↓reduceIte]; split <;> omega) (by omega)
  exact L5 _ σ 0 hz (by first | assumption | omega) (zSame_rf _ _) (fun j hj => absurd hj (Nat.not_lt_zero j)) (Nat.lt_succ_self _)
set_option maxRecDepth 20000 in
set_option maxHeartbeats 2000000 in
theorem sX2_add {l : Launch} {w : zW} (hfl : l.stackTraces = false) {σ : zS} {c : Nat} {pg kd vl wt : Int} (hz : zOK σ) (h1 : zr pg) (h2 : zr kd) (h3 : zr vl) (h4 : zr wt) (hK : 0 ≤ σ.1 c 0 ∧ σ.1 c 0 < 40) (hO : ∀ i : Nat, (i : Int) < σ.1 c 0 → 0 ≤ σ.1 (c + 7) i ∧ σ.1 (c + 7) i < σ.1 c 0) : Sp l w mX2_add 2 0 [zf 2 c, zi pg, zi kd, zi vl, zi wt] σ (zqv (none) (fun τ => addR σ τ c pg kd vl wt)) := by
  obtain ⟨Q, hQ⟩ : ∃ Q : zQ, Q = (zqv (none) (fun τ => addR σ τ c pg kd vl wt)) := ⟨_, rfl⟩
  rw [← hQ]
  refine zx_enter hfl (by decide) rfl 1 rfl ?_
  show zX l w mX2_add (zMQ w 2 0 Q) 0 [zf 2 c, zi pg, zi kd, zi vl, zi wt, zu] [] 0 σ
  refine zx_aloadN dX2_add_0 rfl rfl ?_
  refine zy_cv [] (sX2_isFull  hfl hz ) dX2_add_1 (by decide) rfl cw_RX2_44 okX2_isFull rfl (Nat.le_of_ble_eq_true rfl) ⟨Nat.le_of_ble_eq_true rfl, Nat.le_of_ble_eq_true rfl, Nat.le_of_ble_eq_true rfl, Nat.le_of_ble_eq_true rfl⟩ ?_
  refine zx_if_eq (tgt := 8) (by first | exact hz _ _ | assumption | exact zr_b _ | exact zcmp_r _ _ | (unfold zr at *; omega)) dX2_add_4 (by decide) (fun h4 => ?_) (fun h4 => ?_)
  · have h4 := zb_0.mp h4
    refine zx_aloadN dX2_add_8 rfl rfl ?_
    refine zy_getR (q' := c + 1) fl_RX2_15 rfl dX2_add_9 rfl ?_
    refine zx_aloadN dX2_add_12 rfl rfl ?_
    refine zy_getI fl_RX2_9 rfl dX2_add_13 rfl ?_
    refine zx_iloadN dX2_add_16 rfl rfl ?_
    refine zy_iast (i := (σ.1 c 0).toNat) rfl (by decide) (by decide) dX2_add_17 (by omega) (by omega) rfl ?_
    refine zx_aloadN dX2_add_18 rfl rfl ?_
    refine zy_getR (q' := c + 2) fl_RX2_19 rfl dX2_add_19 rfl ?_
    refine zx_aloadN dX2_add_22 rfl rfl ?_
    refine zy_getI (v := σ.1 c 0) fl_RX2_9 rfl dX2_add_23 (zput_k _ _ _ _ _ (by omega)) ?_
    refine zx_iloadN dX2_add_26 rfl rfl ?_
    refine zy_iast (i := (σ.1 c 0).toNat) rfl (by decide) (by decide) dX2_add_27 (by omega) (by omega) rfl ?_
    refine zx_aloadN dX2_add_28 rfl rfl ?_
    refine zy_getR (q' := c + 3) fl_RX2_22 rfl dX2_add_29 rfl ?_
    refine zx_aloadN dX2_add_32 rfl rfl ?_
    refine zy_getI (v := σ.1 c 0) fl_RX2_9 rfl dX2_add_33 ((zput_k _ _ _ _ _ (by omega)).trans (zput_k _ _ _ _ _ (by omega))) ?_
    refine zx_iloadN dX2_add_36 rfl rfl ?_
    refine zy_iast (i := (σ.1 c 0).toNat) rfl (by decide) (by decide) dX2_add_37 (by omega) (by omega) rfl ?_
    refine zx_aloadN dX2_add_38 rfl rfl ?_
    refine zy_getR (q' := c + 4) fl_RX2_25 rfl dX2_add_39 rfl ?_
    refine zx_aloadN dX2_add_42 rfl rfl ?_
    refine zy_getI (v := σ.1 c 0) fl_RX2_9 rfl dX2_add_43 ((zput_k _ _ _ _ _ (by omega)).trans ((zput_k _ _ _ _ _ (by omega)).trans (zput_k _ _ _ _ _ (by omega)))) ?_
    refine zx_iload dX2_add_46 rfl ?_
    refine zy_iast (i := (σ.1 c 0).toNat) rfl (by decide) (by decide) dX2_add_48 (by omega) (by omega) rfl ?_
    refine zx_aloadN dX2_add_49 rfl rfl ?_
    refine zy_getR (q' := c + 5) fl_RX2_28 rfl dX2_add_50 rfl ?_
    refine zx_aloadN dX2_add_53 rfl rfl ?_
    refine zy_getI (v := σ.1 c 0) fl_RX2_9 rfl dX2_add_54 ((zput_k _ _ _ _ _ (by omega)).trans ((zput_k _ _ _ _ _ (by omega)).trans ((zput_k _ _ _ _ _ (by omega)).trans (zput_k _ _ _ _ _ (by omega))))) ?_
    refine zx_iconst dX2_add_57 ?_
    refine zy_zast (i := (σ.1 c 0).toNat) rfl (by decide) (by decide) dX2_add_58 (Or.inl rfl) (by omega) (by omega) rfl ?_
    refine zx_aloadN dX2_add_59 rfl rfl ?_
    refine zy_getR (q' := c + 6) fl_RX2_32 rfl dX2_add_60 rfl ?_
    refine zx_aloadN dX2_add_63 rfl rfl ?_
    refine zy_getI (v := σ.1 c 0) fl_RX2_9 rfl dX2_add_64 ((zput_k _ _ _ _ _ (by omega)).trans ((zput_k _ _ _ _ _ (by omega)).trans ((zput_k _ _ _ _ _ (by omega)).trans ((zput_k _ _ _ _ _ (by omega)).trans (zput_k _ _ _ _ _ (by omega)))))) ?_
    refine zx_iconst dX2_add_67 ?_
    refine zy_zast (i := (σ.1 c 0).toNat) rfl (by decide) (by decide) dX2_add_68 (Or.inl rfl) (by omega) (by omega) rfl ?_
    refine zx_aloadN dX2_add_69 rfl rfl ?_
    refine zy_getI (v := σ.1 c 0) fl_RX2_9 rfl dX2_add_70 ((zput_k _ _ _ _ _ (by omega)).trans ((zput_k _ _ _ _ _ (by omega)).trans ((zput_k _ _ _ _ _ (by omega)).trans ((zput_k _ _ _ _ _ (by omega)).trans ((zput_k _ _ _ _ _ (by omega)).trans (zput_k _ _ _ _ _ (by omega))))))) ?_
    refine zy_top (b := (((σ.1 c 0).toNat : Nat) : Int)) (by omega) ?_
    refine zy_istore [zf 2 c, zi pg, zi kd, zi vl, zi wt, zi (((σ.1 c 0).toNat : Nat) : Int)] dX2_add_73 (Nat.le_of_ble_eq_true rfl) (Nat.le_of_ble_eq_true rfl) rfl rfl ?_
    have L75 : ∀ (N : Nat) (τ : zS) (j : Nat), (zOK τ) → (zSame (fun q => c ≤ q ∧ q ≤ c + 7) σ τ) → (τ.1 c 0 = σ.1 c 0) → (∀ i : Nat, τ.1 (c + 1) i = if (i : Int) = σ.1 c 0 then pg else σ.1 (c + 1) i) → (∀ i : Nat, τ.1 (c + 2) i = if (i : Int) = σ.1 c 0 then kd else σ.1 (c + 2) i) → (∀ i : Nat, τ.1 (c + 3) i = if (i : Int) = σ.1 c 0 then vl else σ.1 (c + 3) i) → (∀ i : Nat, τ.1 (c + 4) i = if (i : Int) = σ.1 c 0 then wt else σ.1 (c + 4) i) → (∀ i : Nat, τ.1 (c + 5) i = if (i : Int) = σ.1 c 0 then 0 else σ.1 (c + 5) i) → (∀ i : Nat, τ.1 (c + 6) i = if (i : Int) = σ.1 c 0 then 0 else σ.1 (c + 6) i) → ((j : Int) ≤ σ.1 c 0) → (∀ i, i < j → τ.1 (c + 7) i = σ.1 (c + 7) i) → (∀ i, j ≤ i → (i : Int) < σ.1 c 0 → τ.1 (c + 7) (i + 1) = σ.1 (c + 7) i ∧ σ.1 (c + 1) (σ.1 (c + 7) i).toNat < pg) → j < N → zX l w mX2_add (zMQ w 2 0 Q) 75 [zf 2 c, zi pg, zi kd, zi vl, zi wt, zi ((j : Nat) : Int)] [] 0 τ := by
      intro N
      induction N with
      | zero => intro τ j _ _ _ _ _ _ _ _ _ _ _ _ _; exact absurd (by assumption) (Nat.not_lt_zero _)
      | succ N ih75 =>
        intro τ j hz h1 h2 g1 g2 g3 g4 g5 g6 h9 h10 h11 hN
        refine zx_iload dX2_add_75 rfl ?_
        refine zx_if_le (tgt := 114) (by first | exact hz _ _ | assumption | exact zr_b _ | exact zcmp_r _ _ | (unfold zr at *; omega)) dX2_add_77 (by decide) (fun h77 => ?_) (fun h77 => ?_)
        · refine zx_aloadN dX2_add_114 rfl rfl ?_
          refine zy_getR (q' := c + 7) fl_RX2_35 rfl dX2_add_115 rfl ?_
          refine zx_iload dX2_add_118 rfl ?_
          refine zx_aloadN dX2_add_120 rfl rfl ?_
          refine zy_getI fl_RX2_9 rfl dX2_add_121 rfl ?_
          refine zy_iast (i := j) rfl (by decide) (by decide) dX2_add_124 (by omega) (by omega) rfl ?_
          refine zx_aloadN dX2_add_125 rfl rfl ?_
          refine zx_dup rfl dX2_add_126 ?_
          refine zy_getI (v := τ.1 c 0) fl_RX2_9 rfl dX2_add_127 (zput_k _ _ _ _ _ (by omega)) ?_
          refine zx_iconst dX2_add_130 ?_
          refine zx_iadd dX2_add_131 ?_
          refine zx_putI fl_RX2_9 rfl (Or.inl fp_2_0) dX2_add_132 ?_
          refine zx_vret rfl dX2_add_135 ?_
          rw [hQ]
          refine ⟨rfl, ?_⟩
          refine ⟨(zOK_put (zOK_put hz (by first | exact hz _ _ | assumption | exact zr_b _ | exact zcmp_r _ _ | (unfold zr at *; omega))) (by first | exact hz _ _ | assumption | exact zr_b _ | exact zcmp_r _ _ | (unfold zr at *; omega))), ⟨fun q hq i => by have := h1.1 q hq i; have hq2 := hq; dsimp only at hq2; simp only [zput_e, true_and, and_true, ↓reduceIte]; (repeat' split) <;> omega, h1.2⟩, by simp only [zput_e, true_and, and_true, ↓reduceIte]; (repeat' split) <;> omega, fun i => by have := g1 i; simp only [zput_e, true_and, and_true, ↓reduceIte]; (repeat' split) <;> omega, fun i => by have := g2 i; simp only [zput_e, true_and, and_true, ↓reduceIte]; (repeat' split) <;> omega, fun i => by have := g3 i; simp only [zput_e, true_and, and_true, ↓reduceIte]; (repeat' split) <;> omega, fun i => by have := g4 i; simp only [zput_e, true_and, and_true, ↓reduceIte]; (repeat' split) <;> omega, fun i => by have := g5 i; simp only [zput_e, true_and, and_true, ↓reduceIte]; (repeat' split) <;> omega, fun i => by have := g6 i; simp only [zput_e, true_and, and_true, ↓reduceIte]; (repeat' split) <;> omega, j, h9, by simp only [zput_e, true_and, and_true, ↓reduceIte]; (repeat' split) <;> omega, fun i hi => by have := h10 i hi; simp only [zput_e, true_and, and_true, ↓reduceIte]; (repeat' split) <;> omega, fun i hi hi2 => ?_, fun hj0 => ?_⟩
          · have := h11 i hi hi2
            simp only [zput_e, true_and, and_true, ↓reduceIte]; (repeat' split) <;> omega
          · first
            | (exfalso; omega)
            | (have := hpgA; omega)
        · refine zx_aloadN dX2_add_80 rfl rfl ?_
          refine zx_iload dX2_add_81 rfl ?_
          refine zx_iconst dX2_add_83 ?_
          refine zx_isub dX2_add_84 ?_
          refine zy_top (b := ((j - 1 : Nat) : Int)) (by omega) ?_
          have hOj := hO (j - 1) (by omega)
          have e10 := h10 (j - 1) (by omega)
          have g1j := g1 (σ.1 (c + 7) (j - 1)).toNat
          refine zy_cv [zi ((j - 1 : Nat) : Int)] (sX2_pageAt  hfl hz (by omega) (by omega) (by omega)) dX2_add_85 (by decide) rfl cw_RX2_48 okX2_pageAt rfl (Nat.le_of_ble_eq_true rfl) ⟨Nat.le_of_ble_eq_true rfl, Nat.le_of_ble_eq_true rfl, Nat.le_of_ble_eq_true rfl, Nat.le_of_ble_eq_true rfl⟩ ?_
          have hpgA : σ.1 (c + 1) (σ.1 (c + 7) (j - 1)).toNat = τ.1 (c + 1) (τ.1 (c + 7) (j - 1)).toNat := by rw [e10, g1j]; omega
          refine zx_iloadN dX2_add_88 rfl rfl ?_
          refine zx_icmp_ge (tgt := 114) (by first | exact hz _ _ | assumption | exact zr_b _ | exact zcmp_r _ _ | (unfold zr at *; omega)) (by first | exact hz _ _ | assumption | exact zr_b _ | exact zcmp_r _ _ | (unfold zr at *; omega)) dX2_add_89 (by decide) (fun h89 => ?_) (fun h89 => ?_)
          · refine zx_aloadN dX2_add_114 rfl rfl ?_
            refine zy_getR (q' := c + 7) fl_RX2_35 rfl dX2_add_115 rfl ?_
            refine zx_iload dX2_add_118 rfl ?_
            refine zx_aloadN dX2_add_120 rfl rfl ?_
            refine zy_getI fl_RX2_9 rfl dX2_add_121 rfl ?_
            refine zy_iast (i := j) rfl (by decide) (by decide) dX2_add_124 (by omega) (by omega) rfl ?_
            refine zx_aloadN dX2_add_125 rfl rfl ?_
            refine zx_dup rfl dX2_add_126 ?_
            refine zy_getI (v := τ.1 c 0) fl_RX2_9 rfl dX2_add_127 (zput_k _ _ _ _ _ (by omega)) ?_
            refine zx_iconst dX2_add_130 ?_
            refine zx_iadd dX2_add_131 ?_
            refine zx_putI fl_RX2_9 rfl (Or.inl fp_2_0) dX2_add_132 ?_
            refine zx_vret rfl dX2_add_135 ?_
            rw [hQ]
            refine ⟨rfl, ?_⟩
            refine ⟨(zOK_put (zOK_put hz (by first | exact hz _ _ | assumption | exact zr_b _ | exact zcmp_r _ _ | (unfold zr at *; omega))) (by first | exact hz _ _ | assumption | exact zr_b _ | exact zcmp_r _ _ | (unfold zr at *; omega))), ⟨fun q hq i => by have := h1.1 q hq i; have hq2 := hq; dsimp only at hq2; simp only [zput_e, true_and, and_true, ↓reduceIte]; (repeat' split) <;> omega, h1.2⟩, by simp only [zput_e, true_and, and_true, ↓reduceIte]; (repeat' split) <;> omega, fun i => by have := g1 i; simp only [zput_e, true_and, and_true, ↓reduceIte]; (repeat' split) <;> omega, fun i => by have := g2 i; simp only [zput_e, true_and, and_true, ↓reduceIte]; (repeat' split) <;> omega, fun i => by have := g3 i; simp only [zput_e, true_and, and_true, ↓reduceIte]; (repeat' split) <;> omega, fun i => by have := g4 i; simp only [zput_e, true_and, and_true, ↓reduceIte]; (repeat' split) <;> omega, fun i => by have := g5 i; simp only [zput_e, true_and, and_true, ↓reduceIte]; (repeat' split) <;> omega, fun i => by have := g6 i; simp only [zput_e, true_and, and_true, ↓reduceIte]; (repeat' split) <;> omega, j, h9, by simp only [zput_e, true_and, and_true, ↓reduceIte]; (repeat' split) <;> omega, fun i hi => by have := h10 i hi; simp only [zput_e, true_and, and_true, ↓reduceIte]; (repeat' split) <;> omega, fun i hi hi2 => ?_, fun hj0 => ?_⟩
            · have := h11 i hi hi2
              simp only [zput_e, true_and, and_true, ↓reduceIte]; (repeat' split) <;> omega
            · first
              | (exfalso; omega)
              | (have := hpgA; omega)
          · refine zx_aloadN dX2_add_92 rfl rfl ?_
            refine zy_getR (q' := c + 7) fl_RX2_35 rfl dX2_add_93 rfl ?_
            refine zx_iload dX2_add_96 rfl ?_
            refine zx_aloadN dX2_add_98 rfl rfl ?_
            refine zy_getR (q' := c + 7) fl_RX2_35 rfl dX2_add_99 rfl ?_
            refine zx_iload dX2_add_102 rfl ?_
            refine zx_iconst dX2_add_104 ?_
            refine zx_isub dX2_add_105 ?_
            refine zy_top (b := ((j - 1 : Nat) : Int)) (by omega) ?_
            refine zy_iald (v := τ.1 (c + 7) (j - 1)) rfl (by decide) (by decide) dX2_add_106 (by omega) (by omega) rfl ?_
            refine zy_iast (i := j) rfl (by decide) (by decide) dX2_add_107 (by omega) (by omega) rfl ?_
            refine zy_iinc (b := ((j - 1 : Nat) : Int)) [zf 2 c, zi pg, zi kd, zi vl, zi wt, zi ((j - 1 : Nat) : Int)] dX2_add_108 rfl (by omega) (Nat.le_of_ble_eq_true rfl) rfl rfl ?_
            refine zx_goto (tgt := 75) dX2_add_111 (by decide) ?_
            exact ih75 (zput τ (c + 7) j (τ.1 (c + 7) (j - 1))) (j - 1) (zOK_put hz (by first | exact hz _ _ | assumption | exact zr_b _ | exact zcmp_r _ _ | (unfold zr at *; omega))) ⟨fun q hq i => by have hq2 := hq; dsimp only at hq2; exact (zput_k _ _ _ _ _ (by omega)).trans (h1.1 q hq i), h1.2⟩ ((zput_k _ _ _ _ _ (by omega)).trans (h2)) (fun i => (zput_k _ _ _ _ _ (by omega)).trans (g1 i)) (fun i => (zput_k _ _ _ _ _ (by omega)).trans (g2 i)) (fun i => (zput_k _ _ _ _ _ (by omega)).trans (g3 i)) (fun i => (zput_k _ _ _ _ _ (by omega)).trans (g4 i)) (fun i => (zput_k _ _ _ _ _ (by omega)).trans (g5 i)) (fun i => (zput_k _ _ _ _ _ (by omega)).trans (g6 i)) (by omega) (fun i hi => (zput_i _ _ _ _ _ (by omega)).trans (h10 i (by omega))) (fun i hi hi2 => by
                  by_cases e : i + 1 = j
                  · have e2 : i = j - 1 := by omega
                    subst e2
                    refine ⟨by rw [e, zput_s]; exact h10 _ (by omega), by have := hpgA; omega⟩
                  · exact ⟨(zput_i _ _ _ _ _ (by omega)).trans (h11 i (by omega) hi2).1, (h11 i (by omega) hi2).2⟩) (by omega)
    exact L75 _ (zput (zput (zput (zput (zput (zput σ (c + 1) ((σ.1 c 0).toNat) pg) (c + 2) ((σ.1 c 0).toNat) kd) (c + 3) ((σ.1 c 0).toNat) vl) (c + 4) ((σ.1 c 0).toNat) wt) (c + 5) ((σ.1 c 0).toNat) 0) (c + 6) ((σ.1 c 0).toNat) 0) ((σ.1 c 0).toNat) (zOK_put (zOK_put (zOK_put (zOK_put (zOK_put (zOK_put hz (by first | exact hz _ _ | assumption | exact zr_b _ | exact zcmp_r _ _ | (unfold zr at *; omega))) (by first | exact hz _ _ | assumption | exact zr_b _ | exact zcmp_r _ _ | (unfold zr at *; omega))) (by first | exact hz _ _ | assumption | exact zr_b _ | exact zcmp_r _ _ | (unfold zr at *; omega))) (by first | exact hz _ _ | assumption | exact zr_b _ | exact zcmp_r _ _ | (unfold zr at *; omega))) (by unfold zr; omega)) (by unfold zr; omega)) ⟨fun q hq i => by have hq2 := hq; dsimp only at hq2; simp only [zput_e, true_and, and_true, ↓reduceIte]; (repeat' split) <;> omega, rfl⟩ (by simp only [zput_e, true_and, and_true, ↓reduceIte]; (repeat' split) <;> omega) (fun i => by simp only [zput_e, true_and, and_true, ↓reduceIte]; (repeat' split) <;> omega) (fun i => by simp only [zput_e, true_and, and_true, ↓reduceIte]; (repeat' split) <;> omega) (fun i => by simp only [zput_e, true_and, and_true, ↓reduceIte]; (repeat' split) <;> omega) (fun i => by simp only [zput_e, true_and, and_true, ↓reduceIte]; (repeat' split) <;> omega) (fun i => by simp only [zput_e, true_and, and_true, ↓reduceIte]; (repeat' split) <;> omega) (fun i => by simp only [zput_e, true_and, and_true, ↓reduceIte]; (repeat' split) <;> omega) (by omega) (fun i _ => by simp only [zput_e, true_and, and_true, ↓reduceIte]; (repeat' split) <;> omega) (fun i h1 h2 => absurd h2 (by omega)) (Nat.lt_succ_self _)
  · have h4 := zb_n.mp h4
    exfalso; omega
set_option maxRecDepth 20000 in
set_option maxHeartbeats 2000000 in
theorem sX2_learn {l : Launch} {w : zW} (hfl : l.stackTraces = false) {σ : zS} {c : Nat} {n : Int} (hz : zOK σ) (hn : 1 ≤ n ∧ n ≤ 40) (hK : 0 ≤ σ.1 c 0 ∧ σ.1 c 0 ≤ 40) (hO : ∀ i : Nat, (i : Int) < σ.1 c 0 → 0 ≤ σ.1 (c + 7) i ∧ σ.1 (c + 7) i < σ.1 c 0) (hI : ∀ i j : Nat, (i : Int) < σ.1 c 0 → (j : Int) < σ.1 c 0 → (σ.1 (c + 7) i).toNat = (σ.1 (c + 7) j).toNat → i = j) : Sp l w mX2_learn 2 0 [zf 2 c, zi n] σ (zqv (none) (fun τ => zOK τ ∧ zSame (fun q => q = c + 5) σ τ ∧ ∀ p : Nat, (p : Int) < σ.1 c 0 → τ.1 (c + 5) (σ.1 (c + 7) p).toNat = if σ.1 (c + 5) (σ.1 (c + 7) p).toNat = 0 ∧ zs (fun i => zb (σ.1 (c + 5) (σ.1 (c + 7) i).toNat = 0)) p < n then 1 else σ.1 (c + 5) (σ.1 (c + 7) p).toNat)) := by
  obtain ⟨Q, hQ⟩ : ∃ Q : zQ, Q = (zqv (none) (fun τ => zOK τ ∧ zSame (fun q => q = c + 5) σ τ ∧ ∀ p : Nat, (p : Int) < σ.1 c 0 → τ.1 (c + 5) (σ.1 (c + 7) p).toNat = if σ.1 (c + 5) (σ.1 (c + 7) p).toNat = 0 ∧ zs (fun i => zb (σ.1 (c + 5) (σ.1 (c + 7) i).toNat = 0)) p < n then 1 else σ.1 (c + 5) (σ.1 (c + 7) p).toNat)) := ⟨_, rfl⟩
  rw [← hQ]
  refine zx_enter hfl (by decide) rfl 3 rfl ?_
  show zX l w mX2_learn (zMQ w 2 0 Q) 0 [zf 2 c, zi n, zu, zu, zu] [] 0 σ
  have hu : ∀ p, 0 ≤ zs (fun i => zb (σ.1 (c + 5) (σ.1 (c + 7) i).toNat = 0)) p ∧ zs (fun i => zb (σ.1 (c + 5) (σ.1 (c + 7) i).toNat = 0)) p ≤ p := fun p => zsb_le _ p
  refine zx_iloadN dX2_learn_0 rfl rfl ?_
  refine zy_istoreN [zf 2 c, zi n, zi n, zu, zu] dX2_learn_1 rfl (Nat.le_of_ble_eq_true rfl) (Nat.le_of_ble_eq_true rfl) rfl rfl ?_
  refine zx_iconst dX2_learn_2 ?_
  refine zy_istoreN [zf 2 c, zi n, zi n, zi 0, zu] dX2_learn_3 rfl (Nat.le_of_ble_eq_true rfl) (Nat.le_of_ble_eq_true rfl) rfl rfl ?_
  have L4 : ∀ (N : Nat) (τ : zS) (j : Nat) (o : Int), (zOK τ) → ((j : Int) ≤ σ.1 c 0) → (o = n - zs (fun i => zb (σ.1 (c + 5) (σ.1 (c + 7) i).toNat = 0)) j ∧ 0 ≤ o) → (zSame (fun q => q = c + 5) σ τ) → (∀ p : Nat, p < j → τ.1 (c + 5) (σ.1 (c + 7) p).toNat = if σ.1 (c + 5) (σ.1 (c + 7) p).toNat = 0 ∧ zs (fun i => zb (σ.1 (c + 5) (σ.1 (c + 7) i).toNat = 0)) p < n then 1 else σ.1 (c + 5) (σ.1 (c + 7) p).toNat) → (∀ p : Nat, j ≤ p → (p : Int) < σ.1 c 0 → τ.1 (c + 5) (σ.1 (c + 7) p).toNat = σ.1 (c + 5) (σ.1 (c + 7) p).toNat) → (41 - j) < N → zX l w mX2_learn (zMQ w 2 0 Q) 4 [zf 2 c, zi n, zi o, zi ((j : Nat) : Int), zu] [] 0 τ := by
    intro N
    induction N with
    | zero => intro τ j o _ _ _ _ _ _ _; exact absurd (by assumption) (Nat.not_lt_zero _)
    | succ N ih4 =>
      intro τ j o hz hj ho h1 h2 h3 hN
      have c0 : τ.1 c 0 = σ.1 c 0 := h1.1 c (by omega) 0
      have c7 : ∀ i, τ.1 (c + 7) i = σ.1 (c + 7) i := h1.1 (c + 7) (by omega)
      have huj := hu j
      refine zx_iloadN dX2_learn_4 rfl rfl ?_
      refine zx_aloadN dX2_learn_5 rfl rfl ?_
      refine zy_getI fl_RX2_9 rfl dX2_learn_6 rfl ?_
      refine zx_icmp_ge (tgt := 50) (by first | exact hz _ _ | assumption | exact zr_b _ | exact zcmp_r _ _ | (unfold zr at *; omega)) (by first | exact hz _ _ | assumption | exact zr_b _ | exact zcmp_r _ _ | (unfold zr at *; omega)) dX2_learn_9 (by decide) (fun h9 => ?_) (fun h9 => ?_)
      · refine zx_vret rfl dX2_learn_50 ?_
        rw [hQ]
        refine ⟨rfl, ?_⟩
        refine ⟨hz, h1, fun p hp => ?_⟩
        by_cases hpj : p < j
        · exact h2 p hpj
        · rw [h3 p (by omega) hp, if_neg]
          rintro ⟨-, q2⟩
          have := zsb_mono (fun i => σ.1 (c + 5) (σ.1 (c + 7) i).toNat = 0) (by omega : j ≤ p)
          omega
      · refine zx_iloadN dX2_learn_12 rfl rfl ?_
        refine zx_if_le (tgt := 50) (by first | exact hz _ _ | assumption | exact zr_b _ | exact zcmp_r _ _ | (unfold zr at *; omega)) dX2_learn_13 (by decide) (fun h13 => ?_) (fun h13 => ?_)
        · refine zx_vret rfl dX2_learn_50 ?_
          rw [hQ]
          refine ⟨rfl, ?_⟩
          refine ⟨hz, h1, fun p hp => ?_⟩
          by_cases hpj : p < j
          · exact h2 p hpj
          · rw [h3 p (by omega) hp, if_neg]
            rintro ⟨-, q2⟩
            have := zsb_mono (fun i => σ.1 (c + 5) (σ.1 (c + 7) i).toNat = 0) (by omega : j ≤ p)
            omega
        · have hOj := hO j (by omega)
          have c7j := c7 j
          have h3j := h3 j (by omega) (by omega)
          refine zx_aloadN dX2_learn_16 rfl rfl ?_
          refine zy_getR (q' := c + 7) fl_RX2_35 rfl dX2_learn_17 rfl ?_
          refine zx_iloadN dX2_learn_20 rfl rfl ?_
          refine zy_iald (v := τ.1 (c + 7) j) rfl (by decide) (by decide) dX2_learn_21 (by omega) (by omega) rfl ?_
          refine zy_top (b := (((σ.1 (c + 7) j).toNat : Nat) : Int)) (by omega) ?_
          refine zy_istore [zf 2 c, zi n, zi o, zi ((j : Nat) : Int), zi (((σ.1 (c + 7) j).toNat : Nat) : Int)] dX2_learn_22 (Nat.le_of_ble_eq_true rfl) (Nat.le_of_ble_eq_true rfl) rfl rfl ?_
          refine zx_aloadN dX2_learn_24 rfl rfl ?_
          refine zx_iload dX2_learn_25 rfl ?_
          refine zy_cv [zi (((σ.1 (c + 7) j).toNat : Nat) : Int)] (sX2_isUnread  hfl hz (by first | exact hz _ _ | assumption | exact zr_b _ | exact zcmp_r _ _ | (unfold zr at *; omega)) (by first | assumption | omega)) dX2_learn_27 (by decide) rfl cw_RX2_59 okX2_isUnread rfl (Nat.le_of_ble_eq_true rfl) ⟨Nat.le_of_ble_eq_true rfl, Nat.le_of_ble_eq_true rfl, Nat.le_of_ble_eq_true rfl, Nat.le_of_ble_eq_true rfl⟩ ?_
          refine zy_top (b := zb (0 ≤ (((σ.1 (c + 7) j).toNat : Nat) : Int) ∧ (((σ.1 (c + 7) j).toNat : Nat) : Int) < τ.1 c 0 ∧ τ.1 (c + 5) ((σ.1 (c + 7) j).toNat) = 0)) rfl ?_
          refine zx_if_eq (tgt := 44) (by first | exact hz _ _ | assumption | exact zr_b _ | exact zcmp_r _ _ | (unfold zr at *; omega)) dX2_learn_30 (by decide) (fun h30 => ?_) (fun h30 => ?_)
          · have h30 := zb_0.mp h30
            refine zy_iinc (b := ((j + 1 : Nat) : Int)) [zf 2 c, zi n, zi o, zi ((j + 1 : Nat) : Int), zi (((σ.1 (c + 7) j).toNat : Nat) : Int)] dX2_learn_44 rfl (by omega) (Nat.le_of_ble_eq_true rfl) rfl rfl ?_
            refine zx_goto (tgt := 4) dX2_learn_47 (by decide) ?_
            refine zy_drop 4 [zf 2 c, zi n, zi o, zi ((j + 1 : Nat) : Int), zu] rfl ?_
            exact ih4 τ (j + 1) o hz (by first | assumption | omega) (by have e := zs_s (fun i => zb (σ.1 (c + 5) (σ.1 (c + 7) i).toNat = 0)) j; have z0 := @zb_0 (σ.1 (c + 5) (σ.1 (c + 7) j).toNat = 0); have z1 := zb_01 (σ.1 (c + 5) (σ.1 (c + 7) j).toNat = 0); omega) (by first | exact h1 | exact ⟨fun q hq i => by have hq2 := hq; dsimp only at hq2; exact (zput_k _ _ _ _ _ (by omega)).trans (h1.1 q hq i), h1.2⟩) (fun p hp => by
                  have hI2 := hI p j (by omega) (by omega)
                  rcases Nat.lt_succ_iff_lt_or_eq.mp hp with q | rfl
                  · have := h2 p q
                    first | exact this | exact (zput_i _ _ _ _ _ (by intro e; have := hI2 (by omega); omega)).trans this
                  · first | (split <;> omega) | (rw [zput_s]; split <;> omega)) (fun p hp hp2 => by
                  have hI2 := hI p j (by omega) (by omega)
                  have := h3 p (by omega) hp2
                  first | exact this | exact (zput_i _ _ _ _ _ (by intro e; have := hI2 (by omega); omega)).trans this) (by omega)
          · have h30 := zb_n.mp h30
            refine zx_aloadN dX2_learn_33 rfl rfl ?_
            refine zy_getR (q' := c + 5) fl_RX2_28 rfl dX2_learn_34 rfl ?_
            refine zx_iload dX2_learn_37 rfl ?_
            refine zx_iconst dX2_learn_39 ?_
            refine zy_zast (i := (σ.1 (c + 7) j).toNat) rfl (by decide) (by decide) dX2_learn_40 (Or.inr rfl) (by omega) (by omega) rfl ?_
            refine zy_iinc (b := o - 1) [zf 2 c, zi n, zi (o - 1), zi ((j : Nat) : Int), zi (((σ.1 (c + 7) j).toNat : Nat) : Int)] dX2_learn_41 rfl (by omega) (Nat.le_of_ble_eq_true rfl) rfl rfl ?_
            refine zy_iinc (b := ((j + 1 : Nat) : Int)) [zf 2 c, zi n, zi (o - 1), zi ((j + 1 : Nat) : Int), zi (((σ.1 (c + 7) j).toNat : Nat) : Int)] dX2_learn_44 rfl (by omega) (Nat.le_of_ble_eq_true rfl) rfl rfl ?_
            refine zx_goto (tgt := 4) dX2_learn_47 (by decide) ?_
            refine zy_drop 4 [zf 2 c, zi n, zi (o - 1), zi ((j + 1 : Nat) : Int), zu] rfl ?_
            exact ih4 (zput τ (c + 5) ((σ.1 (c + 7) j).toNat) 1) (j + 1) (o - 1) (zOK_put hz (by unfold zr; omega)) (by first | assumption | omega) (by have e := zs_s (fun i => zb (σ.1 (c + 5) (σ.1 (c + 7) i).toNat = 0)) j; have z0 := @zb_0 (σ.1 (c + 5) (σ.1 (c + 7) j).toNat = 0); have z1 := zb_01 (σ.1 (c + 5) (σ.1 (c + 7) j).toNat = 0); omega) (by first | exact h1 | exact ⟨fun q hq i => by have hq2 := hq; dsimp only at hq2; exact (zput_k _ _ _ _ _ (by omega)).trans (h1.1 q hq i), h1.2⟩) (fun p hp => by
                  have hI2 := hI p j (by omega) (by omega)
                  rcases Nat.lt_succ_iff_lt_or_eq.mp hp with q | rfl
                  · have := h2 p q
                    first | exact this | exact (zput_i _ _ _ _ _ (by intro e; have := hI2 (by omega); omega)).trans this
                  · first | (split <;> omega) | (rw [zput_s]; split <;> omega)) (fun p hp hp2 => by
                  have hI2 := hI p j (by omega) (by omega)
                  have := h3 p (by omega) hp2
                  first | exact this | exact (zput_i _ _ _ _ _ (by intro e; have := hI2 (by omega); omega)).trans this) (by omega)
  exact L4 _ σ 0 n hz (by first | assumption | omega) (by simp only [zs]; omega) (zSame_rf _ _) (fun p hp => absurd hp (Nat.not_lt_zero p)) (fun _ _ _ => rfl) (Nat.lt_succ_self _)

