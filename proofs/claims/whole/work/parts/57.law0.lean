theorem clk_13 : Cond.classLink "ColophonDetectiveLaw" 13 "java/lang/IllegalStateException" ∈ zgood := zmem1 1010 (by decide +kernel) rfl
theorem cst_13 : Cond.castable "java/lang/IllegalStateException" "java/lang/IllegalStateException" ∈ zface := List.mem_filter.mpr ⟨List.mem_of_getElem? (i := 1021) (by decide +kernel), rfl⟩
theorem clk_19 : Cond.classLink "ColophonDetectiveLaw" 19 "java/lang/IllegalArgumentException" ∈ zgood := zmem1 1093 (by decide +kernel) rfl
theorem cst_19 : Cond.castable "java/lang/IllegalArgumentException" "java/lang/IllegalArgumentException" ∈ zface := List.mem_filter.mpr ⟨List.mem_of_getElem? (i := 1100) (by decide +kernel), rfl⟩
theorem clk_31 : Cond.classLink "ColophonDetectiveLaw" 31 "java/lang/IndexOutOfBoundsException" ∈ zgood := zmem1 1207 (by decide +kernel) rfl
theorem cst_31 : Cond.castable "java/lang/IndexOutOfBoundsException" "java/lang/IndexOutOfBoundsException" ∈ zface := List.mem_filter.mpr ⟨List.mem_of_getElem? (i := 1219) (by decide +kernel), rfl⟩
abbrev mL_append : zM := (yL_append, cL_append, 8, (some .int), [(0, 16, 19, 13)])
theorem okL_append : zMok mL_append 7 := ⟨by decide, by decide, by decide +kernel⟩
theorem dL_append_0 : decode cL_append 0 = .ok (.aload 6, 2) := by decide +kernel
theorem dL_append_2 : decode cL_append 2 = .ok (.iconst 0, 1) := by decide +kernel
theorem dL_append_3 : decode cL_append 3 = .ok (.aload_n 0, 1) := by decide +kernel
theorem dL_append_4 : decode cL_append 4 = .ok (.iload_n 1, 1) := by decide +kernel
theorem dL_append_5 : decode cL_append 5 = .ok (.iload_n 2, 1) := by decide +kernel
theorem dL_append_6 : decode cL_append 6 = .ok (.iload_n 3, 1) := by decide +kernel
theorem dL_append_7 : decode cL_append 7 = .ok (.iload 4, 2) := by decide +kernel
theorem dL_append_9 : decode cL_append 9 = .ok (.iload 5, 2) := by decide +kernel
theorem dL_append_11 : decode cL_append 11 = .ok (.invokevirtual 7, 3) := by decide +kernel
theorem cw_RL_7 : zCwV RL 7 mX9_append := zall [1011, 1012, 1013, 113, 1014] (by decide +kernel) (by decide +kernel)
theorem dL_append_14 : decode cL_append 14 = .ok (.i2l, 1) := by decide +kernel
theorem dL_append_15 : decode cL_append 15 = .ok (.lastore, 1) := by decide +kernel
theorem dL_append_16 : decode cL_append 16 = .ok (.goto 7, 3) := by decide +kernel
theorem dL_append_23 : decode cL_append 23 = .ok (.iconst 0, 1) := by decide +kernel
theorem dL_append_24 : decode cL_append 24 = .ok (.ireturn, 1) := by decide +kernel
theorem dL_append_19 : decode cL_append 19 = .ok (.astore 7, 2) := by decide +kernel
theorem dL_append_21 : decode cL_append 21 = .ok (.iconst 1, 1) := by decide +kernel
theorem dL_append_22 : decode cL_append 22 = .ok (.ireturn, 1) := by decide +kernel
abbrev mL_truncate : zM := (yL_truncate, cL_truncate, 4, (some .int), [(0, 9, 12, 19)])
theorem okL_truncate : zMok mL_truncate 3 := ⟨by decide, by decide, by decide +kernel⟩
theorem dL_truncate_0 : decode cL_truncate 0 = .ok (.aload_n 2, 1) := by decide +kernel
theorem dL_truncate_1 : decode cL_truncate 1 = .ok (.iconst 0, 1) := by decide +kernel
theorem dL_truncate_2 : decode cL_truncate 2 = .ok (.aload_n 0, 1) := by decide +kernel
theorem dL_truncate_3 : decode cL_truncate 3 = .ok (.iload_n 1, 1) := by decide +kernel
theorem dL_truncate_4 : decode cL_truncate 4 = .ok (.invokevirtual 15, 3) := by decide +kernel
theorem cw_RL_15 : zCwV RL 15 mX9_truncate := zall [1094, 1095, 1096, 113, 1097] (by decide +kernel) (by decide +kernel)
theorem dL_truncate_7 : decode cL_truncate 7 = .ok (.i2l, 1) := by decide +kernel
theorem dL_truncate_8 : decode cL_truncate 8 = .ok (.lastore, 1) := by decide +kernel
theorem dL_truncate_9 : decode cL_truncate 9 = .ok (.goto 6, 3) := by decide +kernel
theorem dL_truncate_15 : decode cL_truncate 15 = .ok (.iconst 0, 1) := by decide +kernel
theorem dL_truncate_16 : decode cL_truncate 16 = .ok (.ireturn, 1) := by decide +kernel
theorem dL_truncate_12 : decode cL_truncate 12 = .ok (.astore_n 3, 1) := by decide +kernel
theorem dL_truncate_13 : decode cL_truncate 13 = .ok (.iconst 1, 1) := by decide +kernel
theorem dL_truncate_14 : decode cL_truncate 14 = .ok (.ireturn, 1) := by decide +kernel
abbrev mL_load : zM := (yL_load, cL_load, 3, (some .int), [(0, 8, 11, 19)])
theorem okL_load : zMok mL_load 2 := ⟨by decide, by decide, by decide +kernel⟩
theorem dL_load_0 : decode cL_load 0 = .ok (.aload_n 1, 1) := by decide +kernel
theorem dL_load_1 : decode cL_load 1 = .ok (.iconst 0, 1) := by decide +kernel
theorem dL_load_2 : decode cL_load 2 = .ok (.aload_n 0, 1) := by decide +kernel
theorem dL_load_3 : decode cL_load 3 = .ok (.invokevirtual 21, 3) := by decide +kernel
theorem cw_RL_21 : zCwV RL 21 mX9_load := zall [1117, 1118, 1119, 113, 1120] (by decide +kernel) (by decide +kernel)
theorem dL_load_6 : decode cL_load 6 = .ok (.i2l, 1) := by decide +kernel
theorem dL_load_7 : decode cL_load 7 = .ok (.lastore, 1) := by decide +kernel
theorem dL_load_8 : decode cL_load 8 = .ok (.goto 6, 3) := by decide +kernel
theorem dL_load_14 : decode cL_load 14 = .ok (.iconst 0, 1) := by decide +kernel
theorem dL_load_15 : decode cL_load 15 = .ok (.ireturn, 1) := by decide +kernel
theorem dL_load_11 : decode cL_load 11 = .ok (.astore_n 2, 1) := by decide +kernel
theorem dL_load_12 : decode cL_load 12 = .ok (.iconst 1, 1) := by decide +kernel
theorem dL_load_13 : decode cL_load 13 = .ok (.ireturn, 1) := by decide +kernel
abbrev mL_executeCommands : zM := (yL_executeCommands, cL_executeCommands, 3, (some .int), [(0, 8, 11, 19)])
theorem okL_executeCommands : zMok mL_executeCommands 2 := ⟨by decide, by decide, by decide +kernel⟩
theorem dL_executeCommands_0 : decode cL_executeCommands 0 = .ok (.aload_n 1, 1) := by decide +kernel
theorem dL_executeCommands_1 : decode cL_executeCommands 1 = .ok (.iconst 0, 1) := by decide +kernel
theorem dL_executeCommands_2 : decode cL_executeCommands 2 = .ok (.aload_n 0, 1) := by decide +kernel
theorem dL_executeCommands_3 : decode cL_executeCommands 3 = .ok (.invokevirtual 25, 3) := by decide +kernel
theorem cw_RL_25 : zCwV RL 25 mX9_executeCommands := zall [1129, 1130, 1131, 113, 1132] (by decide +kernel) (by decide +kernel)
theorem dL_executeCommands_6 : decode cL_executeCommands 6 = .ok (.i2l, 1) := by decide +kernel
theorem dL_executeCommands_7 : decode cL_executeCommands 7 = .ok (.lastore, 1) := by decide +kernel
theorem dL_executeCommands_8 : decode cL_executeCommands 8 = .ok (.goto 6, 3) := by decide +kernel
theorem dL_executeCommands_14 : decode cL_executeCommands 14 = .ok (.iconst 0, 1) := by decide +kernel
theorem dL_executeCommands_15 : decode cL_executeCommands 15 = .ok (.ireturn, 1) := by decide +kernel
theorem dL_executeCommands_11 : decode cL_executeCommands 11 = .ok (.astore_n 2, 1) := by decide +kernel
theorem dL_executeCommands_12 : decode cL_executeCommands 12 = .ok (.iconst 1, 1) := by decide +kernel
theorem dL_executeCommands_13 : decode cL_executeCommands 13 = .ok (.ireturn, 1) := by decide +kernel
abbrev mL_cityOf : zM := (yL_cityOf, cL_cityOf, 4, (some .int), [(0, 9, 12, 31)])
theorem okL_cityOf : zMok mL_cityOf 3 := ⟨by decide, by decide, by decide +kernel⟩
theorem dL_cityOf_0 : decode cL_cityOf 0 = .ok (.aload_n 2, 1) := by decide +kernel
theorem dL_cityOf_1 : decode cL_cityOf 1 = .ok (.iconst 0, 1) := by decide +kernel
theorem dL_cityOf_2 : decode cL_cityOf 2 = .ok (.aload_n 0, 1) := by decide +kernel
theorem dL_cityOf_3 : decode cL_cityOf 3 = .ok (.iload_n 1, 1) := by decide +kernel
theorem dL_cityOf_4 : decode cL_cityOf 4 = .ok (.invokevirtual 28, 3) := by decide +kernel
theorem cw_RL_28 : zCwV RL 28 mX9_cityOf := zall [1208, 1209, 1210, 113, 1211] (by decide +kernel) (by decide +kernel)
theorem dL_cityOf_7 : decode cL_cityOf 7 = .ok (.i2l, 1) := by decide +kernel
theorem dL_cityOf_8 : decode cL_cityOf 8 = .ok (.lastore, 1) := by decide +kernel
theorem dL_cityOf_9 : decode cL_cityOf 9 = .ok (.goto 6, 3) := by decide +kernel
theorem dL_cityOf_15 : decode cL_cityOf 15 = .ok (.iconst 0, 1) := by decide +kernel
theorem dL_cityOf_16 : decode cL_cityOf 16 = .ok (.ireturn, 1) := by decide +kernel
theorem dL_cityOf_12 : decode cL_cityOf 12 = .ok (.astore_n 3, 1) := by decide +kernel
theorem dL_cityOf_13 : decode cL_cityOf 13 = .ok (.iconst 1, 1) := by decide +kernel
theorem dL_cityOf_14 : decode cL_cityOf 14 = .ok (.ireturn, 1) := by decide +kernel
abbrev mL_isActive : zM := (yL_isActive, cL_isActive, 5, (some .int), [(0, 17, 20, 31), (0, 17, 24, 19)])
theorem okL_isActive : zMok mL_isActive 4 := ⟨by decide, by decide, by decide +kernel⟩
theorem dL_isActive_0 : decode cL_isActive 0 = .ok (.aload_n 3, 1) := by decide +kernel
theorem dL_isActive_1 : decode cL_isActive 1 = .ok (.iconst 0, 1) := by decide +kernel
theorem dL_isActive_2 : decode cL_isActive 2 = .ok (.aload_n 0, 1) := by decide +kernel
theorem dL_isActive_3 : decode cL_isActive 3 = .ok (.iload_n 1, 1) := by decide +kernel
theorem dL_isActive_4 : decode cL_isActive 4 = .ok (.iload_n 2, 1) := by decide +kernel
theorem dL_isActive_5 : decode cL_isActive 5 = .ok (.invokevirtual 33, 3) := by decide +kernel
theorem cw_RL_33 : zCwV RL 33 mX9_isActive := zall [1236, 1237, 1238, 113, 1239] (by decide +kernel) (by decide +kernel)
theorem dL_isActive_8 : decode cL_isActive 8 = .ok (.ifCond .eq 7, 3) := by decide +kernel
theorem dL_isActive_15 : decode cL_isActive 15 = .ok (.lconst 0, 1) := by decide +kernel
theorem dL_isActive_16 : decode cL_isActive 16 = .ok (.lastore, 1) := by decide +kernel
theorem dL_isActive_17 : decode cL_isActive 17 = .ok (.goto 11, 3) := by decide +kernel
theorem dL_isActive_28 : decode cL_isActive 28 = .ok (.iconst 0, 1) := by decide +kernel
theorem dL_isActive_29 : decode cL_isActive 29 = .ok (.ireturn, 1) := by decide +kernel
theorem dL_isActive_11 : decode cL_isActive 11 = .ok (.lconst 1, 1) := by decide +kernel
theorem dL_isActive_12 : decode cL_isActive 12 = .ok (.goto 4, 3) := by decide +kernel
theorem dL_isActive_20 : decode cL_isActive 20 = .ok (.astore 4, 2) := by decide +kernel
theorem dL_isActive_22 : decode cL_isActive 22 = .ok (.iconst 1, 1) := by decide +kernel
theorem dL_isActive_23 : decode cL_isActive 23 = .ok (.ireturn, 1) := by decide +kernel
theorem dL_isActive_24 : decode cL_isActive 24 = .ok (.astore 4, 2) := by decide +kernel
theorem dL_isActive_26 : decode cL_isActive 26 = .ok (.iconst 2, 1) := by decide +kernel
theorem dL_isActive_27 : decode cL_isActive 27 = .ok (.ireturn, 1) := by decide +kernel
abbrev mL_hasDevice : zM := (yL_hasDevice, cL_hasDevice, 5, (some .int), [(0, 17, 20, 31)])
theorem okL_hasDevice : zMok mL_hasDevice 4 := ⟨by decide, by decide, by decide +kernel⟩
theorem dL_hasDevice_0 : decode cL_hasDevice 0 = .ok (.aload_n 3, 1) := by decide +kernel
theorem dL_hasDevice_1 : decode cL_hasDevice 1 = .ok (.iconst 0, 1) := by decide +kernel
theorem dL_hasDevice_2 : decode cL_hasDevice 2 = .ok (.aload_n 0, 1) := by decide +kernel
theorem dL_hasDevice_3 : decode cL_hasDevice 3 = .ok (.iload_n 1, 1) := by decide +kernel
theorem dL_hasDevice_4 : decode cL_hasDevice 4 = .ok (.iload_n 2, 1) := by decide +kernel
theorem dL_hasDevice_5 : decode cL_hasDevice 5 = .ok (.invokevirtual 37, 3) := by decide +kernel
theorem cw_RL_37 : zCwV RL 37 mX9_hasDevice := zall [1252, 1253, 1254, 113, 1255] (by decide +kernel) (by decide +kernel)
theorem dL_hasDevice_8 : decode cL_hasDevice 8 = .ok (.ifCond .eq 7, 3) := by decide +kernel
theorem dL_hasDevice_15 : decode cL_hasDevice 15 = .ok (.lconst 0, 1) := by decide +kernel
theorem dL_hasDevice_16 : decode cL_hasDevice 16 = .ok (.lastore, 1) := by decide +kernel
theorem dL_hasDevice_17 : decode cL_hasDevice 17 = .ok (.goto 7, 3) := by decide +kernel
theorem dL_hasDevice_24 : decode cL_hasDevice 24 = .ok (.iconst 0, 1) := by decide +kernel
theorem dL_hasDevice_25 : decode cL_hasDevice 25 = .ok (.ireturn, 1) := by decide +kernel
theorem dL_hasDevice_11 : decode cL_hasDevice 11 = .ok (.lconst 1, 1) := by decide +kernel
theorem dL_hasDevice_12 : decode cL_hasDevice 12 = .ok (.goto 4, 3) := by decide +kernel
theorem dL_hasDevice_20 : decode cL_hasDevice 20 = .ok (.astore 4, 2) := by decide +kernel
theorem dL_hasDevice_22 : decode cL_hasDevice 22 = .ok (.iconst 1, 1) := by decide +kernel
theorem dL_hasDevice_23 : decode cL_hasDevice 23 = .ok (.ireturn, 1) := by decide +kernel
abbrev mL_hasTypeface : zM := (yL_hasTypeface, cL_hasTypeface, 5, (some .int), [(0, 17, 20, 31)])
theorem okL_hasTypeface : zMok mL_hasTypeface 4 := ⟨by decide, by decide, by decide +kernel⟩
theorem dL_hasTypeface_0 : decode cL_hasTypeface 0 = .ok (.aload_n 3, 1) := by decide +kernel
theorem dL_hasTypeface_1 : decode cL_hasTypeface 1 = .ok (.iconst 0, 1) := by decide +kernel
theorem dL_hasTypeface_2 : decode cL_hasTypeface 2 = .ok (.aload_n 0, 1) := by decide +kernel
theorem dL_hasTypeface_3 : decode cL_hasTypeface 3 = .ok (.iload_n 1, 1) := by decide +kernel
theorem dL_hasTypeface_4 : decode cL_hasTypeface 4 = .ok (.iload_n 2, 1) := by decide +kernel
theorem dL_hasTypeface_5 : decode cL_hasTypeface 5 = .ok (.invokevirtual 40, 3) := by decide +kernel
theorem cw_RL_40 : zCwV RL 40 mX9_hasTypeface := zall [1260, 1261, 1262, 113, 1263] (by decide +kernel) (by decide +kernel)
theorem dL_hasTypeface_8 : decode cL_hasTypeface 8 = .ok (.ifCond .eq 7, 3) := by decide +kernel
theorem dL_hasTypeface_15 : decode cL_hasTypeface 15 = .ok (.lconst 0, 1) := by decide +kernel
theorem dL_hasTypeface_16 : decode cL_hasTypeface 16 = .ok (.lastore, 1) := by decide +kernel
theorem dL_hasTypeface_17 : decode cL_hasTypeface 17 = .ok (.goto 7, 3) := by decide +kernel
theorem dL_hasTypeface_24 : decode cL_hasTypeface 24 = .ok (.iconst 0, 1) := by decide +kernel
theorem dL_hasTypeface_25 : decode cL_hasTypeface 25 = .ok (.ireturn, 1) := by decide +kernel
theorem dL_hasTypeface_11 : decode cL_hasTypeface 11 = .ok (.lconst 1, 1) := by decide +kernel
theorem dL_hasTypeface_12 : decode cL_hasTypeface 12 = .ok (.goto 4, 3) := by decide +kernel
theorem dL_hasTypeface_20 : decode cL_hasTypeface 20 = .ok (.astore 4, 2) := by decide +kernel
theorem dL_hasTypeface_22 : decode cL_hasTypeface 22 = .ok (.iconst 1, 1) := by decide +kernel
theorem dL_hasTypeface_23 : decode cL_hasTypeface 23 = .ok (.ireturn, 1) := by decide +kernel
abbrev mL_watermarksOf : zM := (yL_watermarksOf, cL_watermarksOf, 4, (some .int), [(0, 9, 12, 19)])
theorem okL_watermarksOf : zMok mL_watermarksOf 3 := ⟨by decide, by decide, by decide +kernel⟩
theorem dL_watermarksOf_0 : decode cL_watermarksOf 0 = .ok (.aload_n 2, 1) := by decide +kernel
theorem dL_watermarksOf_1 : decode cL_watermarksOf 1 = .ok (.iconst 0, 1) := by decide +kernel
theorem dL_watermarksOf_2 : decode cL_watermarksOf 2 = .ok (.aload_n 0, 1) := by decide +kernel
theorem dL_watermarksOf_3 : decode cL_watermarksOf 3 = .ok (.iload_n 1, 1) := by decide +kernel
theorem dL_watermarksOf_4 : decode cL_watermarksOf 4 = .ok (.invokevirtual 43, 3) := by decide +kernel
theorem cw_RL_43 : zCwV RL 43 mX9_watermarksOf := zall [1268, 1269, 1270, 113, 1271] (by decide +kernel) (by decide +kernel)
theorem dL_watermarksOf_7 : decode cL_watermarksOf 7 = .ok (.i2l, 1) := by decide +kernel
theorem dL_watermarksOf_8 : decode cL_watermarksOf 8 = .ok (.lastore, 1) := by decide +kernel
theorem dL_watermarksOf_9 : decode cL_watermarksOf 9 = .ok (.goto 6, 3) := by decide +kernel
theorem dL_watermarksOf_15 : decode cL_watermarksOf 15 = .ok (.iconst 0, 1) := by decide +kernel
theorem dL_watermarksOf_16 : decode cL_watermarksOf 16 = .ok (.ireturn, 1) := by decide +kernel
theorem dL_watermarksOf_12 : decode cL_watermarksOf 12 = .ok (.astore_n 3, 1) := by decide +kernel
theorem dL_watermarksOf_13 : decode cL_watermarksOf 13 = .ok (.iconst 1, 1) := by decide +kernel
theorem dL_watermarksOf_14 : decode cL_watermarksOf 14 = .ok (.ireturn, 1) := by decide +kernel
abbrev mL_kindOf : zM := (yL_kindOf, cL_kindOf, 4, (some .int), [(0, 9, 12, 31)])
theorem okL_kindOf : zMok mL_kindOf 3 := ⟨by decide, by decide, by decide +kernel⟩
theorem dL_kindOf_0 : decode cL_kindOf 0 = .ok (.aload_n 2, 1) := by decide +kernel
theorem dL_kindOf_1 : decode cL_kindOf 1 = .ok (.iconst 0, 1) := by decide +kernel
theorem dL_kindOf_2 : decode cL_kindOf 2 = .ok (.aload_n 0, 1) := by decide +kernel
theorem dL_kindOf_3 : decode cL_kindOf 3 = .ok (.iload_n 1, 1) := by decide +kernel
theorem dL_kindOf_4 : decode cL_kindOf 4 = .ok (.invokevirtual 46, 3) := by decide +kernel
theorem cw_RL_46 : zCwV RL 46 mX9_kindOf := zall [1281, 1282, 1283, 113, 1284] (by decide +kernel) (by decide +kernel)
theorem dL_kindOf_7 : decode cL_kindOf 7 = .ok (.i2l, 1) := by decide +kernel
theorem dL_kindOf_8 : decode cL_kindOf 8 = .ok (.lastore, 1) := by decide +kernel
theorem dL_kindOf_9 : decode cL_kindOf 9 = .ok (.goto 6, 3) := by decide +kernel
theorem dL_kindOf_15 : decode cL_kindOf 15 = .ok (.iconst 0, 1) := by decide +kernel
theorem dL_kindOf_16 : decode cL_kindOf 16 = .ok (.ireturn, 1) := by decide +kernel
theorem dL_kindOf_12 : decode cL_kindOf 12 = .ok (.astore_n 3, 1) := by decide +kernel
theorem dL_kindOf_13 : decode cL_kindOf 13 = .ok (.iconst 1, 1) := by decide +kernel
theorem dL_kindOf_14 : decode cL_kindOf 14 = .ok (.ireturn, 1) := by decide +kernel
abbrev mL_valueOf : zM := (yL_valueOf, cL_valueOf, 4, (some .int), [(0, 9, 12, 31)])
theorem okL_valueOf : zMok mL_valueOf 3 := ⟨by decide, by decide, by decide +kernel⟩
theorem dL_valueOf_0 : decode cL_valueOf 0 = .ok (.aload_n 2, 1) := by decide +kernel
theorem dL_valueOf_1 : decode cL_valueOf 1 = .ok (.iconst 0, 1) := by decide +kernel
theorem dL_valueOf_2 : decode cL_valueOf 2 = .ok (.aload_n 0, 1) := by decide +kernel
theorem dL_valueOf_3 : decode cL_valueOf 3 = .ok (.iload_n 1, 1) := by decide +kernel
theorem dL_valueOf_4 : decode cL_valueOf 4 = .ok (.invokevirtual 49, 3) := by decide +kernel
theorem cw_RL_49 : zCwV RL 49 mX9_valueOf := zall [1294, 1295, 1296, 113, 1297] (by decide +kernel) (by decide +kernel)
theorem dL_valueOf_7 : decode cL_valueOf 7 = .ok (.i2l, 1) := by decide +kernel
theorem dL_valueOf_8 : decode cL_valueOf 8 = .ok (.lastore, 1) := by decide +kernel
theorem dL_valueOf_9 : decode cL_valueOf 9 = .ok (.goto 6, 3) := by decide +kernel
theorem dL_valueOf_15 : decode cL_valueOf 15 = .ok (.iconst 0, 1) := by decide +kernel
theorem dL_valueOf_16 : decode cL_valueOf 16 = .ok (.ireturn, 1) := by decide +kernel
theorem dL_valueOf_12 : decode cL_valueOf 12 = .ok (.astore_n 3, 1) := by decide +kernel
theorem dL_valueOf_13 : decode cL_valueOf 13 = .ok (.iconst 1, 1) := by decide +kernel
theorem dL_valueOf_14 : decode cL_valueOf 14 = .ok (.ireturn, 1) := by decide +kernel
abbrev mL_pageOf : zM := (yL_pageOf, cL_pageOf, 4, (some .int), [(0, 9, 12, 31)])
theorem okL_pageOf : zMok mL_pageOf 3 := ⟨by decide, by decide, by decide +kernel⟩
theorem dL_pageOf_0 : decode cL_pageOf 0 = .ok (.aload_n 2, 1) := by decide +kernel
theorem dL_pageOf_1 : decode cL_pageOf 1 = .ok (.iconst 0, 1) := by decide +kernel
theorem dL_pageOf_2 : decode cL_pageOf 2 = .ok (.aload_n 0, 1) := by decide +kernel
theorem dL_pageOf_3 : decode cL_pageOf 3 = .ok (.iload_n 1, 1) := by decide +kernel
theorem dL_pageOf_4 : decode cL_pageOf 4 = .ok (.invokevirtual 52, 3) := by decide +kernel
theorem cw_RL_52 : zCwV RL 52 mX9_pageOf := zall [1301, 1302, 1303, 113, 1304] (by decide +kernel) (by decide +kernel)
theorem dL_pageOf_7 : decode cL_pageOf 7 = .ok (.i2l, 1) := by decide +kernel
theorem dL_pageOf_8 : decode cL_pageOf 8 = .ok (.lastore, 1) := by decide +kernel
theorem dL_pageOf_9 : decode cL_pageOf 9 = .ok (.goto 6, 3) := by decide +kernel
theorem dL_pageOf_15 : decode cL_pageOf 15 = .ok (.iconst 0, 1) := by decide +kernel
theorem dL_pageOf_16 : decode cL_pageOf 16 = .ok (.ireturn, 1) := by decide +kernel
theorem dL_pageOf_12 : decode cL_pageOf 12 = .ok (.astore_n 3, 1) := by decide +kernel
theorem dL_pageOf_13 : decode cL_pageOf 13 = .ok (.iconst 1, 1) := by decide +kernel
theorem dL_pageOf_14 : decode cL_pageOf 14 = .ok (.ireturn, 1) := by decide +kernel
abbrev mL_weightOf : zM := (yL_weightOf, cL_weightOf, 4, (some .int), [(0, 9, 12, 31)])
theorem okL_weightOf : zMok mL_weightOf 3 := ⟨by decide, by decide, by decide +kernel⟩
theorem dL_weightOf_0 : decode cL_weightOf 0 = .ok (.aload_n 2, 1) := by decide +kernel
theorem dL_weightOf_1 : decode cL_weightOf 1 = .ok (.iconst 0, 1) := by decide +kernel
theorem dL_weightOf_2 : decode cL_weightOf 2 = .ok (.aload_n 0, 1) := by decide +kernel
theorem dL_weightOf_3 : decode cL_weightOf 3 = .ok (.iload_n 1, 1) := by decide +kernel
theorem dL_weightOf_4 : decode cL_weightOf 4 = .ok (.invokevirtual 55, 3) := by decide +kernel
theorem cw_RL_55 : zCwV RL 55 mX9_weightOf := zall [1308, 1309, 1310, 113, 1311] (by decide +kernel) (by decide +kernel)
theorem dL_weightOf_7 : decode cL_weightOf 7 = .ok (.i2l, 1) := by decide +kernel
theorem dL_weightOf_8 : decode cL_weightOf 8 = .ok (.lastore, 1) := by decide +kernel
theorem dL_weightOf_9 : decode cL_weightOf 9 = .ok (.goto 6, 3) := by decide +kernel
theorem dL_weightOf_15 : decode cL_weightOf 15 = .ok (.iconst 0, 1) := by decide +kernel
theorem dL_weightOf_16 : decode cL_weightOf 16 = .ok (.ireturn, 1) := by decide +kernel
theorem dL_weightOf_12 : decode cL_weightOf 12 = .ok (.astore_n 3, 1) := by decide +kernel
theorem dL_weightOf_13 : decode cL_weightOf 13 = .ok (.iconst 1, 1) := by decide +kernel
theorem dL_weightOf_14 : decode cL_weightOf 14 = .ok (.ireturn, 1) := by decide +kernel
abbrev mL_isRead : zM := (yL_isRead, cL_isRead, 4, (some .int), [(0, 16, 19, 31)])
theorem okL_isRead : zMok mL_isRead 3 := ⟨by decide, by decide, by decide +kernel⟩
theorem dL_isRead_0 : decode cL_isRead 0 = .ok (.aload_n 2, 1) := by decide +kernel
theorem dL_isRead_1 : decode cL_isRead 1 = .ok (.iconst 0, 1) := by decide +kernel
theorem dL_isRead_2 : decode cL_isRead 2 = .ok (.aload_n 0, 1) := by decide +kernel
theorem dL_isRead_3 : decode cL_isRead 3 = .ok (.iload_n 1, 1) := by decide +kernel
theorem dL_isRead_4 : decode cL_isRead 4 = .ok (.invokevirtual 58, 3) := by decide +kernel
theorem cw_RL_58 : zCwV RL 58 mX9_isRead := zall [1315, 1316, 1317, 113, 1318] (by decide +kernel) (by decide +kernel)
theorem dL_isRead_7 : decode cL_isRead 7 = .ok (.ifCond .eq 7, 3) := by decide +kernel
theorem dL_isRead_14 : decode cL_isRead 14 = .ok (.lconst 0, 1) := by decide +kernel
theorem dL_isRead_15 : decode cL_isRead 15 = .ok (.lastore, 1) := by decide +kernel
theorem dL_isRead_16 : decode cL_isRead 16 = .ok (.goto 6, 3) := by decide +kernel
theorem dL_isRead_22 : decode cL_isRead 22 = .ok (.iconst 0, 1) := by decide +kernel
theorem dL_isRead_23 : decode cL_isRead 23 = .ok (.ireturn, 1) := by decide +kernel
theorem dL_isRead_10 : decode cL_isRead 10 = .ok (.lconst 1, 1) := by decide +kernel
theorem dL_isRead_11 : decode cL_isRead 11 = .ok (.goto 4, 3) := by decide +kernel
theorem dL_isRead_19 : decode cL_isRead 19 = .ok (.astore_n 3, 1) := by decide +kernel
theorem dL_isRead_20 : decode cL_isRead 20 = .ok (.iconst 1, 1) := by decide +kernel
theorem dL_isRead_21 : decode cL_isRead 21 = .ok (.ireturn, 1) := by decide +kernel
abbrev mL_isAside : zM := (yL_isAside, cL_isAside, 4, (some .int), [(0, 16, 19, 31)])
theorem okL_isAside : zMok mL_isAside 3 := ⟨by decide, by decide, by decide +kernel⟩
theorem dL_isAside_0 : decode cL_isAside 0 = .ok (.aload_n 2, 1) := by decide +kernel
theorem dL_isAside_1 : decode cL_isAside 1 = .ok (.iconst 0, 1) := by decide +kernel
theorem dL_isAside_2 : decode cL_isAside 2 = .ok (.aload_n 0, 1) := by decide +kernel
theorem dL_isAside_3 : decode cL_isAside 3 = .ok (.iload_n 1, 1) := by decide +kernel
theorem dL_isAside_4 : decode cL_isAside 4 = .ok (.invokevirtual 62, 3) := by decide +kernel
theorem cw_RL_62 : zCwV RL 62 mX9_isAside := zall [1322, 1323, 1324, 113, 1325] (by decide +kernel) (by decide +kernel)
theorem dL_isAside_7 : decode cL_isAside 7 = .ok (.ifCond .eq 7, 3) := by decide +kernel
theorem dL_isAside_14 : decode cL_isAside 14 = .ok (.lconst 0, 1) := by decide +kernel
theorem dL_isAside_15 : decode cL_isAside 15 = .ok (.lastore, 1) := by decide +kernel
theorem dL_isAside_16 : decode cL_isAside 16 = .ok (.goto 6, 3) := by decide +kernel
theorem dL_isAside_22 : decode cL_isAside 22 = .ok (.iconst 0, 1) := by decide +kernel
theorem dL_isAside_23 : decode cL_isAside 23 = .ok (.ireturn, 1) := by decide +kernel
theorem dL_isAside_10 : decode cL_isAside 10 = .ok (.lconst 1, 1) := by decide +kernel
theorem dL_isAside_11 : decode cL_isAside 11 = .ok (.goto 4, 3) := by decide +kernel
theorem dL_isAside_19 : decode cL_isAside 19 = .ok (.astore_n 3, 1) := by decide +kernel
theorem dL_isAside_20 : decode cL_isAside 20 = .ok (.iconst 1, 1) := by decide +kernel
theorem dL_isAside_21 : decode cL_isAside 21 = .ok (.ireturn, 1) := by decide +kernel
abbrev mL_explains : zM := (yL_explains, cL_explains, 6, (some .int), [(0, 19, 22, 31), (0, 19, 26, 19)])
theorem okL_explains : zMok mL_explains 5 := ⟨by decide, by decide, by decide +kernel⟩
theorem dL_explains_0 : decode cL_explains 0 = .ok (.aload 4, 2) := by decide +kernel
theorem dL_explains_2 : decode cL_explains 2 = .ok (.iconst 0, 1) := by decide +kernel
theorem dL_explains_3 : decode cL_explains 3 = .ok (.aload_n 0, 1) := by decide +kernel
theorem dL_explains_4 : decode cL_explains 4 = .ok (.iload_n 1, 1) := by decide +kernel
theorem dL_explains_5 : decode cL_explains 5 = .ok (.iload_n 2, 1) := by decide +kernel
theorem dL_explains_6 : decode cL_explains 6 = .ok (.iload_n 3, 1) := by decide +kernel
theorem dL_explains_7 : decode cL_explains 7 = .ok (.invokevirtual 65, 3) := by decide +kernel
theorem cw_RL_65 : zCwV RL 65 mX9_explains := zall [1329, 1330, 1331, 113, 1332] (by decide +kernel) (by decide +kernel)
theorem dL_explains_10 : decode cL_explains 10 = .ok (.ifCond .eq 7, 3) := by decide +kernel
theorem dL_explains_17 : decode cL_explains 17 = .ok (.lconst 0, 1) := by decide +kernel
theorem dL_explains_18 : decode cL_explains 18 = .ok (.lastore, 1) := by decide +kernel
theorem dL_explains_19 : decode cL_explains 19 = .ok (.goto 11, 3) := by decide +kernel
theorem dL_explains_30 : decode cL_explains 30 = .ok (.iconst 0, 1) := by decide +kernel
theorem dL_explains_31 : decode cL_explains 31 = .ok (.ireturn, 1) := by decide +kernel
theorem dL_explains_13 : decode cL_explains 13 = .ok (.lconst 1, 1) := by decide +kernel
theorem dL_explains_14 : decode cL_explains 14 = .ok (.goto 4, 3) := by decide +kernel
theorem dL_explains_22 : decode cL_explains 22 = .ok (.astore 5, 2) := by decide +kernel
theorem dL_explains_24 : decode cL_explains 24 = .ok (.iconst 1, 1) := by decide +kernel
theorem dL_explains_25 : decode cL_explains 25 = .ok (.ireturn, 1) := by decide +kernel
theorem dL_explains_26 : decode cL_explains 26 = .ok (.astore 5, 2) := by decide +kernel
theorem dL_explains_28 : decode cL_explains 28 = .ok (.iconst 2, 1) := by decide +kernel
theorem dL_explains_29 : decode cL_explains 29 = .ok (.ireturn, 1) := by decide +kernel
abbrev mL_score : zM := (yL_score, cL_score, 5, (some .int), [(0, 10, 13, 31), (0, 10, 17, 19)])
theorem okL_score : zMok mL_score 4 := ⟨by decide, by decide, by decide +kernel⟩
theorem dL_score_0 : decode cL_score 0 = .ok (.aload_n 3, 1) := by decide +kernel
theorem dL_score_1 : decode cL_score 1 = .ok (.iconst 0, 1) := by decide +kernel
theorem dL_score_2 : decode cL_score 2 = .ok (.aload_n 0, 1) := by decide +kernel
theorem dL_score_3 : decode cL_score 3 = .ok (.iload_n 1, 1) := by decide +kernel
theorem dL_score_4 : decode cL_score 4 = .ok (.iload_n 2, 1) := by decide +kernel
theorem dL_score_5 : decode cL_score 5 = .ok (.invokevirtual 69, 3) := by decide +kernel
theorem cw_RL_69 : zCwV RL 69 mX9_score := zall [1337, 1338, 1339, 113, 1340] (by decide +kernel) (by decide +kernel)
theorem dL_score_8 : decode cL_score 8 = .ok (.i2l, 1) := by decide +kernel
theorem dL_score_9 : decode cL_score 9 = .ok (.lastore, 1) := by decide +kernel
theorem dL_score_10 : decode cL_score 10 = .ok (.goto 11, 3) := by decide +kernel
theorem dL_score_21 : decode cL_score 21 = .ok (.iconst 0, 1) := by decide +kernel
theorem dL_score_22 : decode cL_score 22 = .ok (.ireturn, 1) := by decide +kernel
theorem dL_score_13 : decode cL_score 13 = .ok (.astore 4, 2) := by decide +kernel
theorem dL_score_15 : decode cL_score 15 = .ok (.iconst 1, 1) := by decide +kernel
theorem dL_score_16 : decode cL_score 16 = .ok (.ireturn, 1) := by decide +kernel
theorem dL_score_17 : decode cL_score 17 = .ok (.astore 4, 2) := by decide +kernel
theorem dL_score_19 : decode cL_score 19 = .ok (.iconst 2, 1) := by decide +kernel
theorem dL_score_20 : decode cL_score 20 = .ok (.ireturn, 1) := by decide +kernel
abbrev mL_bestYear : zM := (yL_bestYear, cL_bestYear, 4, (some .int), [(0, 9, 12, 31)])
theorem okL_bestYear : zMok mL_bestYear 3 := ⟨by decide, by decide, by decide +kernel⟩
theorem dL_bestYear_0 : decode cL_bestYear 0 = .ok (.aload_n 2, 1) := by decide +kernel
theorem dL_bestYear_1 : decode cL_bestYear 1 = .ok (.iconst 0, 1) := by decide +kernel
theorem dL_bestYear_2 : decode cL_bestYear 2 = .ok (.aload_n 0, 1) := by decide +kernel
theorem dL_bestYear_3 : decode cL_bestYear 3 = .ok (.iload_n 1, 1) := by decide +kernel
theorem dL_bestYear_4 : decode cL_bestYear 4 = .ok (.invokevirtual 73, 3) := by decide +kernel
theorem cw_RL_73 : zCwV RL 73 mX9_bestYear := zall [1344, 1345, 1346, 113, 1347] (by decide +kernel) (by decide +kernel)
theorem dL_bestYear_7 : decode cL_bestYear 7 = .ok (.i2l, 1) := by decide +kernel
theorem dL_bestYear_8 : decode cL_bestYear 8 = .ok (.lastore, 1) := by decide +kernel
theorem dL_bestYear_9 : decode cL_bestYear 9 = .ok (.goto 6, 3) := by decide +kernel
theorem dL_bestYear_15 : decode cL_bestYear 15 = .ok (.iconst 0, 1) := by decide +kernel
theorem dL_bestYear_16 : decode cL_bestYear 16 = .ok (.ireturn, 1) := by decide +kernel
theorem dL_bestYear_12 : decode cL_bestYear 12 = .ok (.astore_n 3, 1) := by decide +kernel
theorem dL_bestYear_13 : decode cL_bestYear 13 = .ok (.iconst 1, 1) := by decide +kernel
theorem dL_bestYear_14 : decode cL_bestYear 14 = .ok (.ireturn, 1) := by decide +kernel
abbrev mL_bestScore : zM := (yL_bestScore, cL_bestScore, 4, (some .int), [(0, 9, 12, 31)])
theorem okL_bestScore : zMok mL_bestScore 3 := ⟨by decide, by decide, by decide +kernel⟩
theorem dL_bestScore_0 : decode cL_bestScore 0 = .ok (.aload_n 2, 1) := by decide +kernel
theorem dL_bestScore_1 : decode cL_bestScore 1 = .ok (.iconst 0, 1) := by decide +kernel
theorem dL_bestScore_2 : decode cL_bestScore 2 = .ok (.aload_n 0, 1) := by decide +kernel
theorem dL_bestScore_3 : decode cL_bestScore 3 = .ok (.iload_n 1, 1) := by decide +kernel
theorem dL_bestScore_4 : decode cL_bestScore 4 = .ok (.invokevirtual 76, 3) := by decide +kernel
theorem cw_RL_76 : zCwV RL 76 mX9_bestScore := zall [1351, 1352, 1353, 113, 1354] (by decide +kernel) (by decide +kernel)
theorem dL_bestScore_7 : decode cL_bestScore 7 = .ok (.i2l, 1) := by decide +kernel
theorem dL_bestScore_8 : decode cL_bestScore 8 = .ok (.lastore, 1) := by decide +kernel
theorem dL_bestScore_9 : decode cL_bestScore 9 = .ok (.goto 6, 3) := by decide +kernel
theorem dL_bestScore_15 : decode cL_bestScore 15 = .ok (.iconst 0, 1) := by decide +kernel
theorem dL_bestScore_16 : decode cL_bestScore 16 = .ok (.ireturn, 1) := by decide +kernel
theorem dL_bestScore_12 : decode cL_bestScore 12 = .ok (.astore_n 3, 1) := by decide +kernel
theorem dL_bestScore_13 : decode cL_bestScore 13 = .ok (.iconst 1, 1) := by decide +kernel
theorem dL_bestScore_14 : decode cL_bestScore 14 = .ok (.ireturn, 1) := by decide +kernel
abbrev mL_bestYears : zM := (yL_bestYears, cL_bestYears, 4, (some .int), [(0, 9, 12, 31)])
theorem okL_bestYears : zMok mL_bestYears 3 := ⟨by decide, by decide, by decide +kernel⟩
theorem dL_bestYears_0 : decode cL_bestYears 0 = .ok (.aload_n 2, 1) := by decide +kernel
theorem dL_bestYears_1 : decode cL_bestYears 1 = .ok (.iconst 0, 1) := by decide +kernel
theorem dL_bestYears_2 : decode cL_bestYears 2 = .ok (.aload_n 0, 1) := by decide +kernel
theorem dL_bestYears_3 : decode cL_bestYears 3 = .ok (.iload_n 1, 1) := by decide +kernel
theorem dL_bestYears_4 : decode cL_bestYears 4 = .ok (.invokevirtual 79, 3) := by decide +kernel
theorem cw_RL_79 : zCwV RL 79 mX9_bestYears := zall [1358, 1359, 1360, 113, 1361] (by decide +kernel) (by decide +kernel)
theorem dL_bestYears_7 : decode cL_bestYears 7 = .ok (.i2l, 1) := by decide +kernel
theorem dL_bestYears_8 : decode cL_bestYears 8 = .ok (.lastore, 1) := by decide +kernel
theorem dL_bestYears_9 : decode cL_bestYears 9 = .ok (.goto 6, 3) := by decide +kernel
theorem dL_bestYears_15 : decode cL_bestYears 15 = .ok (.iconst 0, 1) := by decide +kernel
theorem dL_bestYears_16 : decode cL_bestYears 16 = .ok (.ireturn, 1) := by decide +kernel
theorem dL_bestYears_12 : decode cL_bestYears 12 = .ok (.astore_n 3, 1) := by decide +kernel
theorem dL_bestYears_13 : decode cL_bestYears 13 = .ok (.iconst 1, 1) := by decide +kernel
theorem dL_bestYears_14 : decode cL_bestYears 14 = .ok (.ireturn, 1) := by decide +kernel
abbrev mL_contradict : zM := (yL_contradict, cL_contradict, 5, (some .int), [(0, 17, 20, 31)])
theorem okL_contradict : zMok mL_contradict 4 := ⟨by decide, by decide, by decide +kernel⟩
theorem dL_contradict_0 : decode cL_contradict 0 = .ok (.aload_n 3, 1) := by decide +kernel
theorem dL_contradict_1 : decode cL_contradict 1 = .ok (.iconst 0, 1) := by decide +kernel
theorem dL_contradict_2 : decode cL_contradict 2 = .ok (.aload_n 0, 1) := by decide +kernel
theorem dL_contradict_3 : decode cL_contradict 3 = .ok (.iload_n 1, 1) := by decide +kernel
theorem dL_contradict_4 : decode cL_contradict 4 = .ok (.iload_n 2, 1) := by decide +kernel
theorem dL_contradict_5 : decode cL_contradict 5 = .ok (.invokevirtual 82, 3) := by decide +kernel
theorem cw_RL_82 : zCwV RL 82 mX9_contradict := zall [1365, 1366, 1367, 113, 1368] (by decide +kernel) (by decide +kernel)
theorem dL_contradict_8 : decode cL_contradict 8 = .ok (.ifCond .eq 7, 3) := by decide +kernel
theorem dL_contradict_15 : decode cL_contradict 15 = .ok (.lconst 0, 1) := by decide +kernel
theorem dL_contradict_16 : decode cL_contradict 16 = .ok (.lastore, 1) := by decide +kernel
theorem dL_contradict_17 : decode cL_contradict 17 = .ok (.goto 7, 3) := by decide +kernel
theorem dL_contradict_24 : decode cL_contradict 24 = .ok (.iconst 0, 1) := by decide +kernel
theorem dL_contradict_25 : decode cL_contradict 25 = .ok (.ireturn, 1) := by decide +kernel
theorem dL_contradict_11 : decode cL_contradict 11 = .ok (.lconst 1, 1) := by decide +kernel
theorem dL_contradict_12 : decode cL_contradict 12 = .ok (.goto 4, 3) := by decide +kernel
theorem dL_contradict_20 : decode cL_contradict 20 = .ok (.astore 4, 2) := by decide +kernel
theorem dL_contradict_22 : decode cL_contradict 22 = .ok (.iconst 1, 1) := by decide +kernel
theorem dL_contradict_23 : decode cL_contradict 23 = .ok (.ireturn, 1) := by decide +kernel
abbrev mL_contradictionsOf : zM := (yL_contradictionsOf, cL_contradictionsOf, 4, (some .int), [(0, 9, 12, 31)])
theorem okL_contradictionsOf : zMok mL_contradictionsOf 3 := ⟨by decide, by decide, by decide +kernel⟩
theorem dL_contradictionsOf_0 : decode cL_contradictionsOf 0 = .ok (.aload_n 2, 1) := by decide +kernel
theorem dL_contradictionsOf_1 : decode cL_contradictionsOf 1 = .ok (.iconst 0, 1) := by decide +kernel
theorem dL_contradictionsOf_2 : decode cL_contradictionsOf 2 = .ok (.aload_n 0, 1) := by decide +kernel
theorem dL_contradictionsOf_3 : decode cL_contradictionsOf 3 = .ok (.iload_n 1, 1) := by decide +kernel
theorem dL_contradictionsOf_4 : decode cL_contradictionsOf 4 = .ok (.invokevirtual 85, 3) := by decide +kernel
theorem cw_RL_85 : zCwV RL 85 mX9_contradictionsOf := zall [1372, 1373, 1374, 113, 1375] (by decide +kernel) (by decide +kernel)
theorem dL_contradictionsOf_7 : decode cL_contradictionsOf 7 = .ok (.i2l, 1) := by decide +kernel
theorem dL_contradictionsOf_8 : decode cL_contradictionsOf 8 = .ok (.lastore, 1) := by decide +kernel
theorem dL_contradictionsOf_9 : decode cL_contradictionsOf 9 = .ok (.goto 6, 3) := by decide +kernel
theorem dL_contradictionsOf_15 : decode cL_contradictionsOf 15 = .ok (.iconst 0, 1) := by decide +kernel
theorem dL_contradictionsOf_16 : decode cL_contradictionsOf 16 = .ok (.ireturn, 1) := by decide +kernel
theorem dL_contradictionsOf_12 : decode cL_contradictionsOf 12 = .ok (.astore_n 3, 1) := by decide +kernel
theorem dL_contradictionsOf_13 : decode cL_contradictionsOf 13 = .ok (.iconst 1, 1) := by decide +kernel
theorem dL_contradictionsOf_14 : decode cL_contradictionsOf 14 = .ok (.ireturn, 1) := by decide +kernel
abbrev mL_printerAfter : zM := (yL_printerAfter, cL_printerAfter, 4, (some .int), [(0, 9, 12, 19)])
theorem okL_printerAfter : zMok mL_printerAfter 3 := ⟨by decide, by decide, by decide +kernel⟩
theorem dL_printerAfter_0 : decode cL_printerAfter 0 = .ok (.aload_n 2, 1) := by decide +kernel
theorem dL_printerAfter_1 : decode cL_printerAfter 1 = .ok (.iconst 0, 1) := by decide +kernel
theorem dL_printerAfter_2 : decode cL_printerAfter 2 = .ok (.aload_n 0, 1) := by decide +kernel
theorem dL_printerAfter_3 : decode cL_printerAfter 3 = .ok (.iload_n 1, 1) := by decide +kernel
theorem dL_printerAfter_4 : decode cL_printerAfter 4 = .ok (.invokevirtual 88, 3) := by decide +kernel
theorem cw_RL_88 : zCwV RL 88 mX9_printerAfter := zall [1379, 1380, 1381, 113, 1382] (by decide +kernel) (by decide +kernel)
theorem dL_printerAfter_7 : decode cL_printerAfter 7 = .ok (.i2l, 1) := by decide +kernel
theorem dL_printerAfter_8 : decode cL_printerAfter 8 = .ok (.lastore, 1) := by decide +kernel
theorem dL_printerAfter_9 : decode cL_printerAfter 9 = .ok (.goto 6, 3) := by decide +kernel
theorem dL_printerAfter_15 : decode cL_printerAfter 15 = .ok (.iconst 0, 1) := by decide +kernel
theorem dL_printerAfter_16 : decode cL_printerAfter 16 = .ok (.ireturn, 1) := by decide +kernel
theorem dL_printerAfter_12 : decode cL_printerAfter 12 = .ok (.astore_n 3, 1) := by decide +kernel
theorem dL_printerAfter_13 : decode cL_printerAfter 13 = .ok (.iconst 1, 1) := by decide +kernel
theorem dL_printerAfter_14 : decode cL_printerAfter 14 = .ok (.ireturn, 1) := by decide +kernel
abbrev mL_yearAfter : zM := (yL_yearAfter, cL_yearAfter, 4, (some .int), [(0, 9, 12, 19)])
theorem okL_yearAfter : zMok mL_yearAfter 3 := ⟨by decide, by decide, by decide +kernel⟩
theorem dL_yearAfter_0 : decode cL_yearAfter 0 = .ok (.aload_n 2, 1) := by decide +kernel
theorem dL_yearAfter_1 : decode cL_yearAfter 1 = .ok (.iconst 0, 1) := by decide +kernel
theorem dL_yearAfter_2 : decode cL_yearAfter 2 = .ok (.aload_n 0, 1) := by decide +kernel
theorem dL_yearAfter_3 : decode cL_yearAfter 3 = .ok (.iload_n 1, 1) := by decide +kernel
theorem dL_yearAfter_4 : decode cL_yearAfter 4 = .ok (.invokevirtual 91, 3) := by decide +kernel
theorem cw_RL_91 : zCwV RL 91 mX9_yearAfter := zall [1390, 1391, 1392, 113, 1393] (by decide +kernel) (by decide +kernel)
theorem dL_yearAfter_7 : decode cL_yearAfter 7 = .ok (.i2l, 1) := by decide +kernel
theorem dL_yearAfter_8 : decode cL_yearAfter 8 = .ok (.lastore, 1) := by decide +kernel
theorem dL_yearAfter_9 : decode cL_yearAfter 9 = .ok (.goto 6, 3) := by decide +kernel
theorem dL_yearAfter_15 : decode cL_yearAfter 15 = .ok (.iconst 0, 1) := by decide +kernel
theorem dL_yearAfter_16 : decode cL_yearAfter 16 = .ok (.ireturn, 1) := by decide +kernel
theorem dL_yearAfter_12 : decode cL_yearAfter 12 = .ok (.astore_n 3, 1) := by decide +kernel
theorem dL_yearAfter_13 : decode cL_yearAfter 13 = .ok (.iconst 1, 1) := by decide +kernel
theorem dL_yearAfter_14 : decode cL_yearAfter 14 = .ok (.ireturn, 1) := by decide +kernel
abbrev mL_addDeviceClue : zM := (yL_addDeviceClue, cL_addDeviceClue, 6, (some .int), [(0, 12, 15, 19), (0, 12, 19, 13)])
theorem okL_addDeviceClue : zMok mL_addDeviceClue 5 := ⟨by decide, by decide, by decide +kernel⟩
theorem dL_addDeviceClue_0 : decode cL_addDeviceClue 0 = .ok (.aload 4, 2) := by decide +kernel
theorem dL_addDeviceClue_2 : decode cL_addDeviceClue 2 = .ok (.iconst 0, 1) := by decide +kernel
theorem dL_addDeviceClue_3 : decode cL_addDeviceClue 3 = .ok (.aload_n 0, 1) := by decide +kernel
theorem dL_addDeviceClue_4 : decode cL_addDeviceClue 4 = .ok (.iload_n 1, 1) := by decide +kernel
theorem dL_addDeviceClue_5 : decode cL_addDeviceClue 5 = .ok (.iload_n 2, 1) := by decide +kernel
theorem dL_addDeviceClue_6 : decode cL_addDeviceClue 6 = .ok (.iload_n 3, 1) := by decide +kernel
theorem dL_addDeviceClue_7 : decode cL_addDeviceClue 7 = .ok (.invokevirtual 94, 3) := by decide +kernel
theorem cw_RL_94 : zCwV RL 94 mX9_addDeviceClue := zall [1397, 1398, 1399, 113, 1400] (by decide +kernel) (by decide +kernel)
theorem dL_addDeviceClue_10 : decode cL_addDeviceClue 10 = .ok (.i2l, 1) := by decide +kernel
theorem dL_addDeviceClue_11 : decode cL_addDeviceClue 11 = .ok (.lastore, 1) := by decide +kernel
theorem dL_addDeviceClue_12 : decode cL_addDeviceClue 12 = .ok (.goto 11, 3) := by decide +kernel
theorem dL_addDeviceClue_23 : decode cL_addDeviceClue 23 = .ok (.iconst 0, 1) := by decide +kernel
theorem dL_addDeviceClue_24 : decode cL_addDeviceClue 24 = .ok (.ireturn, 1) := by decide +kernel
theorem dL_addDeviceClue_15 : decode cL_addDeviceClue 15 = .ok (.astore 5, 2) := by decide +kernel
theorem dL_addDeviceClue_17 : decode cL_addDeviceClue 17 = .ok (.iconst 1, 1) := by decide +kernel
theorem dL_addDeviceClue_18 : decode cL_addDeviceClue 18 = .ok (.ireturn, 1) := by decide +kernel
theorem dL_addDeviceClue_19 : decode cL_addDeviceClue 19 = .ok (.astore 5, 2) := by decide +kernel
theorem dL_addDeviceClue_21 : decode cL_addDeviceClue 21 = .ok (.iconst 2, 1) := by decide +kernel
theorem dL_addDeviceClue_22 : decode cL_addDeviceClue 22 = .ok (.ireturn, 1) := by decide +kernel
abbrev mL_addTypefaceClue : zM := (yL_addTypefaceClue, cL_addTypefaceClue, 6, (some .int), [(0, 12, 15, 19), (0, 12, 19, 13)])
theorem okL_addTypefaceClue : zMok mL_addTypefaceClue 5 := ⟨by decide, by decide, by decide +kernel⟩
theorem dL_addTypefaceClue_0 : decode cL_addTypefaceClue 0 = .ok (.aload 4, 2) := by decide +kernel
theorem dL_addTypefaceClue_2 : decode cL_addTypefaceClue 2 = .ok (.iconst 0, 1) := by decide +kernel
theorem dL_addTypefaceClue_3 : decode cL_addTypefaceClue 3 = .ok (.aload_n 0, 1) := by decide +kernel
theorem dL_addTypefaceClue_4 : decode cL_addTypefaceClue 4 = .ok (.iload_n 1, 1) := by decide +kernel
theorem dL_addTypefaceClue_5 : decode cL_addTypefaceClue 5 = .ok (.iload_n 2, 1) := by decide +kernel
theorem dL_addTypefaceClue_6 : decode cL_addTypefaceClue 6 = .ok (.iload_n 3, 1) := by decide +kernel
theorem dL_addTypefaceClue_7 : decode cL_addTypefaceClue 7 = .ok (.invokevirtual 98, 3) := by decide +kernel
theorem cw_RL_98 : zCwV RL 98 mX9_addTypefaceClue := zall [1414, 1415, 1416, 113, 1417] (by decide +kernel) (by decide +kernel)
theorem dL_addTypefaceClue_10 : decode cL_addTypefaceClue 10 = .ok (.i2l, 1) := by decide +kernel
theorem dL_addTypefaceClue_11 : decode cL_addTypefaceClue 11 = .ok (.lastore, 1) := by decide +kernel
theorem dL_addTypefaceClue_12 : decode cL_addTypefaceClue 12 = .ok (.goto 11, 3) := by decide +kernel
theorem dL_addTypefaceClue_23 : decode cL_addTypefaceClue 23 = .ok (.iconst 0, 1) := by decide +kernel
theorem dL_addTypefaceClue_24 : decode cL_addTypefaceClue 24 = .ok (.ireturn, 1) := by decide +kernel
theorem dL_addTypefaceClue_15 : decode cL_addTypefaceClue 15 = .ok (.astore 5, 2) := by decide +kernel
theorem dL_addTypefaceClue_17 : decode cL_addTypefaceClue 17 = .ok (.iconst 1, 1) := by decide +kernel
theorem dL_addTypefaceClue_18 : decode cL_addTypefaceClue 18 = .ok (.ireturn, 1) := by decide +kernel
theorem dL_addTypefaceClue_19 : decode cL_addTypefaceClue 19 = .ok (.astore 5, 2) := by decide +kernel
theorem dL_addTypefaceClue_21 : decode cL_addTypefaceClue 21 = .ok (.iconst 2, 1) := by decide +kernel
theorem dL_addTypefaceClue_22 : decode cL_addTypefaceClue 22 = .ok (.ireturn, 1) := by decide +kernel
abbrev mL_addWatermarkClue : zM := (yL_addWatermarkClue, cL_addWatermarkClue, 6, (some .int), [(0, 12, 15, 19), (0, 12, 19, 13)])
theorem okL_addWatermarkClue : zMok mL_addWatermarkClue 5 := ⟨by decide, by decide, by decide +kernel⟩
theorem dL_addWatermarkClue_0 : decode cL_addWatermarkClue 0 = .ok (.aload 4, 2) := by decide +kernel
theorem dL_addWatermarkClue_2 : decode cL_addWatermarkClue 2 = .ok (.iconst 0, 1) := by decide +kernel
theorem dL_addWatermarkClue_3 : decode cL_addWatermarkClue 3 = .ok (.aload_n 0, 1) := by decide +kernel
theorem dL_addWatermarkClue_4 : decode cL_addWatermarkClue 4 = .ok (.iload_n 1, 1) := by decide +kernel
theorem dL_addWatermarkClue_5 : decode cL_addWatermarkClue 5 = .ok (.iload_n 2, 1) := by decide +kernel
theorem dL_addWatermarkClue_6 : decode cL_addWatermarkClue 6 = .ok (.iload_n 3, 1) := by decide +kernel
theorem dL_addWatermarkClue_7 : decode cL_addWatermarkClue 7 = .ok (.invokevirtual 101, 3) := by decide +kernel
theorem cw_RL_101 : zCwV RL 101 mX9_addWatermarkClue := zall [1421, 1422, 1423, 113, 1424] (by decide +kernel) (by decide +kernel)
theorem dL_addWatermarkClue_10 : decode cL_addWatermarkClue 10 = .ok (.i2l, 1) := by decide +kernel
theorem dL_addWatermarkClue_11 : decode cL_addWatermarkClue 11 = .ok (.lastore, 1) := by decide +kernel
theorem dL_addWatermarkClue_12 : decode cL_addWatermarkClue 12 = .ok (.goto 11, 3) := by decide +kernel
theorem dL_addWatermarkClue_23 : decode cL_addWatermarkClue 23 = .ok (.iconst 0, 1) := by decide +kernel
theorem dL_addWatermarkClue_24 : decode cL_addWatermarkClue 24 = .ok (.ireturn, 1) := by decide +kernel
theorem dL_addWatermarkClue_15 : decode cL_addWatermarkClue 15 = .ok (.astore 5, 2) := by decide +kernel
theorem dL_addWatermarkClue_17 : decode cL_addWatermarkClue 17 = .ok (.iconst 1, 1) := by decide +kernel
theorem dL_addWatermarkClue_18 : decode cL_addWatermarkClue 18 = .ok (.ireturn, 1) := by decide +kernel
theorem dL_addWatermarkClue_19 : decode cL_addWatermarkClue 19 = .ok (.astore 5, 2) := by decide +kernel
theorem dL_addWatermarkClue_21 : decode cL_addWatermarkClue 21 = .ok (.iconst 2, 1) := by decide +kernel
theorem dL_addWatermarkClue_22 : decode cL_addWatermarkClue 22 = .ok (.ireturn, 1) := by decide +kernel
abbrev mL_addCityClue : zM := (yL_addCityClue, cL_addCityClue, 6, (some .int), [(0, 12, 15, 19), (0, 12, 19, 13)])
theorem okL_addCityClue : zMok mL_addCityClue 5 := ⟨by decide, by decide, by decide +kernel⟩
theorem dL_addCityClue_0 : decode cL_addCityClue 0 = .ok (.aload 4, 2) := by decide +kernel
theorem dL_addCityClue_2 : decode cL_addCityClue 2 = .ok (.iconst 0, 1) := by decide +kernel
theorem dL_addCityClue_3 : decode cL_addCityClue 3 = .ok (.aload_n 0, 1) := by decide +kernel
theorem dL_addCityClue_4 : decode cL_addCityClue 4 = .ok (.iload_n 1, 1) := by decide +kernel
theorem dL_addCityClue_5 : decode cL_addCityClue 5 = .ok (.iload_n 2, 1) := by decide +kernel
theorem dL_addCityClue_6 : decode cL_addCityClue 6 = .ok (.iload_n 3, 1) := by decide +kernel
theorem dL_addCityClue_7 : decode cL_addCityClue 7 = .ok (.invokevirtual 104, 3) := by decide +kernel
theorem cw_RL_104 : zCwV RL 104 mX9_addCityClue := zall [1428, 1429, 1430, 113, 1431] (by decide +kernel) (by decide +kernel)
theorem dL_addCityClue_10 : decode cL_addCityClue 10 = .ok (.i2l, 1) := by decide +kernel
theorem dL_addCityClue_11 : decode cL_addCityClue 11 = .ok (.lastore, 1) := by decide +kernel
theorem dL_addCityClue_12 : decode cL_addCityClue 12 = .ok (.goto 11, 3) := by decide +kernel
theorem dL_addCityClue_23 : decode cL_addCityClue 23 = .ok (.iconst 0, 1) := by decide +kernel
theorem dL_addCityClue_24 : decode cL_addCityClue 24 = .ok (.ireturn, 1) := by decide +kernel
theorem dL_addCityClue_15 : decode cL_addCityClue 15 = .ok (.astore 5, 2) := by decide +kernel
theorem dL_addCityClue_17 : decode cL_addCityClue 17 = .ok (.iconst 1, 1) := by decide +kernel
theorem dL_addCityClue_18 : decode cL_addCityClue 18 = .ok (.ireturn, 1) := by decide +kernel
theorem dL_addCityClue_19 : decode cL_addCityClue 19 = .ok (.astore 5, 2) := by decide +kernel
theorem dL_addCityClue_21 : decode cL_addCityClue 21 = .ok (.iconst 2, 1) := by decide +kernel
theorem dL_addCityClue_22 : decode cL_addCityClue 22 = .ok (.ireturn, 1) := by decide +kernel
abbrev mL_addDateClue : zM := (yL_addDateClue, cL_addDateClue, 6, (some .int), [(0, 12, 15, 19), (0, 12, 19, 13)])
theorem okL_addDateClue : zMok mL_addDateClue 5 := ⟨by decide, by decide, by decide +kernel⟩
theorem dL_addDateClue_0 : decode cL_addDateClue 0 = .ok (.aload 4, 2) := by decide +kernel
theorem dL_addDateClue_2 : decode cL_addDateClue 2 = .ok (.iconst 0, 1) := by decide +kernel
theorem dL_addDateClue_3 : decode cL_addDateClue 3 = .ok (.aload_n 0, 1) := by decide +kernel
theorem dL_addDateClue_4 : decode cL_addDateClue 4 = .ok (.iload_n 1, 1) := by decide +kernel
theorem dL_addDateClue_5 : decode cL_addDateClue 5 = .ok (.iload_n 2, 1) := by decide +kernel
theorem dL_addDateClue_6 : decode cL_addDateClue 6 = .ok (.iload_n 3, 1) := by decide +kernel
theorem dL_addDateClue_7 : decode cL_addDateClue 7 = .ok (.invokevirtual 107, 3) := by decide +kernel
theorem cw_RL_107 : zCwV RL 107 mX9_addDateClue := zall [1435, 1436, 1437, 113, 1438] (by decide +kernel) (by decide +kernel)
theorem dL_addDateClue_10 : decode cL_addDateClue 10 = .ok (.i2l, 1) := by decide +kernel
theorem dL_addDateClue_11 : decode cL_addDateClue 11 = .ok (.lastore, 1) := by decide +kernel
theorem dL_addDateClue_12 : decode cL_addDateClue 12 = .ok (.goto 11, 3) := by decide +kernel
theorem dL_addDateClue_23 : decode cL_addDateClue 23 = .ok (.iconst 0, 1) := by decide +kernel
theorem dL_addDateClue_24 : decode cL_addDateClue 24 = .ok (.ireturn, 1) := by decide +kernel
theorem dL_addDateClue_15 : decode cL_addDateClue 15 = .ok (.astore 5, 2) := by decide +kernel
theorem dL_addDateClue_17 : decode cL_addDateClue 17 = .ok (.iconst 1, 1) := by decide +kernel
theorem dL_addDateClue_18 : decode cL_addDateClue 18 = .ok (.ireturn, 1) := by decide +kernel
theorem dL_addDateClue_19 : decode cL_addDateClue 19 = .ok (.astore 5, 2) := by decide +kernel
theorem dL_addDateClue_21 : decode cL_addDateClue 21 = .ok (.iconst 2, 1) := by decide +kernel
theorem dL_addDateClue_22 : decode cL_addDateClue 22 = .ok (.ireturn, 1) := by decide +kernel
abbrev mL_read : zM := (yL_read, cL_read, 4, (some .int), [(0, 9, 12, 19)])
theorem okL_read : zMok mL_read 3 := ⟨by decide, by decide, by decide +kernel⟩
theorem dL_read_0 : decode cL_read 0 = .ok (.aload_n 2, 1) := by decide +kernel
theorem dL_read_1 : decode cL_read 1 = .ok (.iconst 0, 1) := by decide +kernel
theorem dL_read_2 : decode cL_read 2 = .ok (.aload_n 0, 1) := by decide +kernel
theorem dL_read_3 : decode cL_read 3 = .ok (.iload_n 1, 1) := by decide +kernel
theorem dL_read_4 : decode cL_read 4 = .ok (.invokevirtual 110, 3) := by decide +kernel
theorem cw_RL_110 : zCwV RL 110 mX9_read := zall [1442, 1443, 1444, 113, 1445] (by decide +kernel) (by decide +kernel)
theorem dL_read_7 : decode cL_read 7 = .ok (.i2l, 1) := by decide +kernel
theorem dL_read_8 : decode cL_read 8 = .ok (.lastore, 1) := by decide +kernel
theorem dL_read_9 : decode cL_read 9 = .ok (.goto 6, 3) := by decide +kernel
theorem dL_read_15 : decode cL_read 15 = .ok (.iconst 0, 1) := by decide +kernel
theorem dL_read_16 : decode cL_read 16 = .ok (.ireturn, 1) := by decide +kernel
theorem dL_read_12 : decode cL_read 12 = .ok (.astore_n 3, 1) := by decide +kernel
theorem dL_read_13 : decode cL_read 13 = .ok (.iconst 1, 1) := by decide +kernel
theorem dL_read_14 : decode cL_read 14 = .ok (.ireturn, 1) := by decide +kernel
abbrev mL_setAside : zM := (yL_setAside, cL_setAside, 4, (some .int), [(0, 9, 12, 31), (0, 9, 15, 13)])
theorem okL_setAside : zMok mL_setAside 3 := ⟨by decide, by decide, by decide +kernel⟩
theorem dL_setAside_0 : decode cL_setAside 0 = .ok (.aload_n 2, 1) := by decide +kernel
theorem dL_setAside_1 : decode cL_setAside 1 = .ok (.iconst 0, 1) := by decide +kernel
theorem dL_setAside_2 : decode cL_setAside 2 = .ok (.aload_n 0, 1) := by decide +kernel
theorem dL_setAside_3 : decode cL_setAside 3 = .ok (.iload_n 1, 1) := by decide +kernel
theorem dL_setAside_4 : decode cL_setAside 4 = .ok (.invokevirtual 113, 3) := by decide +kernel
theorem cw_RL_113 : zCwV RL 113 mX9_setAside := zall [1450, 1451, 1452, 113, 1453] (by decide +kernel) (by decide +kernel)
theorem dL_setAside_7 : decode cL_setAside 7 = .ok (.i2l, 1) := by decide +kernel
theorem dL_setAside_8 : decode cL_setAside 8 = .ok (.lastore, 1) := by decide +kernel
theorem dL_setAside_9 : decode cL_setAside 9 = .ok (.goto 9, 3) := by decide +kernel
theorem dL_setAside_18 : decode cL_setAside 18 = .ok (.iconst 0, 1) := by decide +kernel
theorem dL_setAside_19 : decode cL_setAside 19 = .ok (.ireturn, 1) := by decide +kernel
theorem dL_setAside_12 : decode cL_setAside 12 = .ok (.astore_n 3, 1) := by decide +kernel
theorem dL_setAside_13 : decode cL_setAside 13 = .ok (.iconst 1, 1) := by decide +kernel
theorem dL_setAside_14 : decode cL_setAside 14 = .ok (.ireturn, 1) := by decide +kernel
theorem dL_setAside_15 : decode cL_setAside 15 = .ok (.astore_n 3, 1) := by decide +kernel
theorem dL_setAside_16 : decode cL_setAside 16 = .ok (.iconst 2, 1) := by decide +kernel
theorem dL_setAside_17 : decode cL_setAside 17 = .ok (.ireturn, 1) := by decide +kernel
abbrev mL_takeBack : zM := (yL_takeBack, cL_takeBack, 4, (some .int), [(0, 9, 12, 31), (0, 9, 15, 13)])
theorem okL_takeBack : zMok mL_takeBack 3 := ⟨by decide, by decide, by decide +kernel⟩
theorem dL_takeBack_0 : decode cL_takeBack 0 = .ok (.aload_n 2, 1) := by decide +kernel
theorem dL_takeBack_1 : decode cL_takeBack 1 = .ok (.iconst 0, 1) := by decide +kernel
theorem dL_takeBack_2 : decode cL_takeBack 2 = .ok (.aload_n 0, 1) := by decide +kernel
theorem dL_takeBack_3 : decode cL_takeBack 3 = .ok (.iload_n 1, 1) := by decide +kernel
theorem dL_takeBack_4 : decode cL_takeBack 4 = .ok (.invokevirtual 116, 3) := by decide +kernel
theorem cw_RL_116 : zCwV RL 116 mX9_takeBack := zall [1457, 1458, 1459, 113, 1460] (by decide +kernel) (by decide +kernel)
theorem dL_takeBack_7 : decode cL_takeBack 7 = .ok (.i2l, 1) := by decide +kernel
theorem dL_takeBack_8 : decode cL_takeBack 8 = .ok (.lastore, 1) := by decide +kernel
theorem dL_takeBack_9 : decode cL_takeBack 9 = .ok (.goto 9, 3) := by decide +kernel
theorem dL_takeBack_18 : decode cL_takeBack 18 = .ok (.iconst 0, 1) := by decide +kernel
theorem dL_takeBack_19 : decode cL_takeBack 19 = .ok (.ireturn, 1) := by decide +kernel
theorem dL_takeBack_12 : decode cL_takeBack 12 = .ok (.astore_n 3, 1) := by decide +kernel
theorem dL_takeBack_13 : decode cL_takeBack 13 = .ok (.iconst 1, 1) := by decide +kernel
theorem dL_takeBack_14 : decode cL_takeBack 14 = .ok (.ireturn, 1) := by decide +kernel
theorem dL_takeBack_15 : decode cL_takeBack 15 = .ok (.astore_n 3, 1) := by decide +kernel
theorem dL_takeBack_16 : decode cL_takeBack 16 = .ok (.iconst 2, 1) := by decide +kernel
theorem dL_takeBack_17 : decode cL_takeBack 17 = .ok (.ireturn, 1) := by decide +kernel
abbrev mL_setWeight : zM := (yL_setWeight, cL_setWeight, 5, (some .int), [(0, 10, 13, 31), (0, 10, 17, 19)])
theorem okL_setWeight : zMok mL_setWeight 4 := ⟨by decide, by decide, by decide +kernel⟩
theorem dL_setWeight_0 : decode cL_setWeight 0 = .ok (.aload_n 3, 1) := by decide +kernel
theorem dL_setWeight_1 : decode cL_setWeight 1 = .ok (.iconst 0, 1) := by decide +kernel
theorem dL_setWeight_2 : decode cL_setWeight 2 = .ok (.aload_n 0, 1) := by decide +kernel
theorem dL_setWeight_3 : decode cL_setWeight 3 = .ok (.iload_n 1, 1) := by decide +kernel
theorem dL_setWeight_4 : decode cL_setWeight 4 = .ok (.iload_n 2, 1) := by decide +kernel
theorem dL_setWeight_5 : decode cL_setWeight 5 = .ok (.invokevirtual 119, 3) := by decide +kernel
theorem cw_RL_119 : zCwV RL 119 mX9_setWeight := zall [1464, 1465, 1466, 113, 1467] (by decide +kernel) (by decide +kernel)
theorem dL_setWeight_8 : decode cL_setWeight 8 = .ok (.i2l, 1) := by decide +kernel
theorem dL_setWeight_9 : decode cL_setWeight 9 = .ok (.lastore, 1) := by decide +kernel
theorem dL_setWeight_10 : decode cL_setWeight 10 = .ok (.goto 11, 3) := by decide +kernel
theorem dL_setWeight_21 : decode cL_setWeight 21 = .ok (.iconst 0, 1) := by decide +kernel
theorem dL_setWeight_22 : decode cL_setWeight 22 = .ok (.ireturn, 1) := by decide +kernel
theorem dL_setWeight_13 : decode cL_setWeight 13 = .ok (.astore 4, 2) := by decide +kernel
theorem dL_setWeight_15 : decode cL_setWeight 15 = .ok (.iconst 1, 1) := by decide +kernel
theorem dL_setWeight_16 : decode cL_setWeight 16 = .ok (.ireturn, 1) := by decide +kernel
theorem dL_setWeight_17 : decode cL_setWeight 17 = .ok (.astore 4, 2) := by decide +kernel
theorem dL_setWeight_19 : decode cL_setWeight 19 = .ok (.iconst 2, 1) := by decide +kernel
theorem dL_setWeight_20 : decode cL_setWeight 20 = .ok (.ireturn, 1) := by decide +kernel
abbrev mL_transferDevice : zM := (yL_transferDevice, cL_transferDevice, 6, (some .int), [(0, 12, 15, 31), (0, 12, 19, 19), (0, 12, 23, 13)])
theorem okL_transferDevice : zMok mL_transferDevice 5 := ⟨by decide, by decide, by decide +kernel⟩
theorem dL_transferDevice_0 : decode cL_transferDevice 0 = .ok (.aload 4, 2) := by decide +kernel
theorem dL_transferDevice_2 : decode cL_transferDevice 2 = .ok (.iconst 0, 1) := by decide +kernel
theorem dL_transferDevice_3 : decode cL_transferDevice 3 = .ok (.aload_n 0, 1) := by decide +kernel
theorem dL_transferDevice_4 : decode cL_transferDevice 4 = .ok (.iload_n 1, 1) := by decide +kernel
theorem dL_transferDevice_5 : decode cL_transferDevice 5 = .ok (.iload_n 2, 1) := by decide +kernel
theorem dL_transferDevice_6 : decode cL_transferDevice 6 = .ok (.iload_n 3, 1) := by decide +kernel
theorem dL_transferDevice_7 : decode cL_transferDevice 7 = .ok (.invokevirtual 122, 3) := by decide +kernel
theorem cw_RL_122 : zCwV RL 122 mX9_transferDevice := zall [1471, 1472, 1473, 113, 1474] (by decide +kernel) (by decide +kernel)
theorem dL_transferDevice_10 : decode cL_transferDevice 10 = .ok (.i2l, 1) := by decide +kernel
theorem dL_transferDevice_11 : decode cL_transferDevice 11 = .ok (.lastore, 1) := by decide +kernel
theorem dL_transferDevice_12 : decode cL_transferDevice 12 = .ok (.goto 15, 3) := by decide +kernel
theorem dL_transferDevice_27 : decode cL_transferDevice 27 = .ok (.iconst 0, 1) := by decide +kernel
theorem dL_transferDevice_28 : decode cL_transferDevice 28 = .ok (.ireturn, 1) := by decide +kernel
theorem dL_transferDevice_15 : decode cL_transferDevice 15 = .ok (.astore 5, 2) := by decide +kernel
theorem dL_transferDevice_17 : decode cL_transferDevice 17 = .ok (.iconst 1, 1) := by decide +kernel
theorem dL_transferDevice_18 : decode cL_transferDevice 18 = .ok (.ireturn, 1) := by decide +kernel
theorem dL_transferDevice_19 : decode cL_transferDevice 19 = .ok (.astore 5, 2) := by decide +kernel
theorem dL_transferDevice_21 : decode cL_transferDevice 21 = .ok (.iconst 2, 1) := by decide +kernel
theorem dL_transferDevice_22 : decode cL_transferDevice 22 = .ok (.ireturn, 1) := by decide +kernel
theorem dL_transferDevice_23 : decode cL_transferDevice 23 = .ok (.astore 5, 2) := by decide +kernel
theorem dL_transferDevice_25 : decode cL_transferDevice 25 = .ok (.iconst 3, 1) := by decide +kernel
theorem dL_transferDevice_26 : decode cL_transferDevice 26 = .ok (.ireturn, 1) := by decide +kernel
abbrev mL_undo : zM := (yL_undo, cL_undo, 3, (some .int), [(0, 8, 11, 13)])
theorem okL_undo : zMok mL_undo 2 := ⟨by decide, by decide, by decide +kernel⟩
theorem dL_undo_0 : decode cL_undo 0 = .ok (.aload_n 1, 1) := by decide +kernel
theorem dL_undo_1 : decode cL_undo 1 = .ok (.iconst 0, 1) := by decide +kernel
theorem dL_undo_2 : decode cL_undo 2 = .ok (.aload_n 0, 1) := by decide +kernel
theorem dL_undo_3 : decode cL_undo 3 = .ok (.invokevirtual 125, 3) := by decide +kernel
theorem cw_RL_125 : zCwV RL 125 mX9_undo := zall [1478, 1479, 1480, 113, 1481] (by decide +kernel) (by decide +kernel)
theorem dL_undo_6 : decode cL_undo 6 = .ok (.i2l, 1) := by decide +kernel
theorem dL_undo_7 : decode cL_undo 7 = .ok (.lastore, 1) := by decide +kernel
theorem dL_undo_8 : decode cL_undo 8 = .ok (.goto 6, 3) := by decide +kernel
theorem dL_undo_14 : decode cL_undo 14 = .ok (.iconst 0, 1) := by decide +kernel
theorem dL_undo_15 : decode cL_undo 15 = .ok (.ireturn, 1) := by decide +kernel
theorem dL_undo_11 : decode cL_undo 11 = .ok (.astore_n 2, 1) := by decide +kernel
theorem dL_undo_12 : decode cL_undo 12 = .ok (.iconst 1, 1) := by decide +kernel
theorem dL_undo_13 : decode cL_undo 13 = .ok (.ireturn, 1) := by decide +kernel
abbrev mL_restore : zM := (yL_restore, cL_restore, 3, (some .int), [(0, 8, 11, 13)])
theorem okL_restore : zMok mL_restore 2 := ⟨by decide, by decide, by decide +kernel⟩
theorem dL_restore_0 : decode cL_restore 0 = .ok (.aload_n 1, 1) := by decide +kernel
theorem dL_restore_1 : decode cL_restore 1 = .ok (.iconst 0, 1) := by decide +kernel
theorem dL_restore_2 : decode cL_restore 2 = .ok (.aload_n 0, 1) := by decide +kernel
theorem dL_restore_3 : decode cL_restore 3 = .ok (.invokevirtual 128, 3) := by decide +kernel
theorem cw_RL_128 : zCwV RL 128 mX9_restore := zall [1491, 1492, 1493, 113, 1494] (by decide +kernel) (by decide +kernel)
theorem dL_restore_6 : decode cL_restore 6 = .ok (.i2l, 1) := by decide +kernel
theorem dL_restore_7 : decode cL_restore 7 = .ok (.lastore, 1) := by decide +kernel
theorem dL_restore_8 : decode cL_restore 8 = .ok (.goto 6, 3) := by decide +kernel
theorem dL_restore_14 : decode cL_restore 14 = .ok (.iconst 0, 1) := by decide +kernel
theorem dL_restore_15 : decode cL_restore 15 = .ok (.ireturn, 1) := by decide +kernel
theorem dL_restore_11 : decode cL_restore 11 = .ok (.astore_n 2, 1) := by decide +kernel
theorem dL_restore_12 : decode cL_restore 12 = .ok (.iconst 1, 1) := by decide +kernel
theorem dL_restore_13 : decode cL_restore 13 = .ok (.ireturn, 1) := by decide +kernel
/-! what the law's own methods do with what is thrown -/
section ZL
variable {l : Launch} {w : zW} {m : zM} {M : zMo} {pc k : Nat} {ls st : List zV} {σ : zS}
theorem zxt_catch {E name : String} {pre suf : List (Nat × Nat × Nat × Nat)} {x : Nat × Nat × Nat × Nat} (hh : m.2.2.2.2 = pre ++ x :: suf) (hp : ∀ z ∈ pre, z.2.2.2 ≠ 0 ∧ ∃ nm, nm ∈ zexs ∧ Cond.classLink m.1.cls z.2.2.2 nm ∈ zgood ∧ E ≠ nm) (hE : E ∈ zexs) (hx : x.1 ≤ pc ∧ pc < x.2.1) (h0 : x.2.2.2 ≠ 0)
    (hl1 : Cond.classLink m.1.cls x.2.2.2 name ∈ zgood) (hcs : Cond.castable E name ∈ zface) (kk : ∀ q : Addr, zX l w m M x.2.2.1 ls [.inr (.inr (.ref q))] k σ) : zXT l w m M pc ls k σ E := by
  intro p e s mid args below meth c C H locs Ls rest q ce hR hS hl hol hq hv hcl hc hs
  obtain ⟨hx1, hb, hml, hr, htab, hown, hts, hlk, hEn, hfl⟩ := id C
  refine vx_catch (name := name) (E := E) hown (pre.map fun q => ⟨q.1, q.2.1, q.2.2.1, q.2.2.2⟩) ⟨x.1, x.2.1, x.2.2.1, x.2.2.2⟩ (suf.map fun q => ⟨q.1, q.2.1, q.2.2.1, q.2.2.2⟩) ?_ ?_ ?_ h0 (hts _ hl1) (zface_same hcs rfl (hEn.2.2.2.2.2.2.2.2.2.2.2.2.1 _ hcs)) hq hv hcl ?_
  · rw [htab, hh]
    unfold tableOf
    rw [List.map_append, List.map_cons]
  · intro z hz
    obtain ⟨z0, hz0, rfl⟩ := List.mem_map.mp hz
    obtain ⟨h1, nm, h2, h3, h4⟩ := hp z0 hz0
    exact Or.inr ⟨h1, nm, hts _ h3, hEn.2.2.2.2.2.2.2.2.2.2.2.2.2 E hE nm h2 h4⟩
  · simp [covers, hx.1, hx.2]
  · exact kk q p e s mid args below meth c C H locs Ls hR hS hl hol (fun v hv => by rcases List.mem_singleton.mp hv with rfl; exact trivial) hc hs
theorem zx_astoreNW {j : Nat} {q : Addr} {f : Fin 4} (hd : decode m.2.1 pc = .ok (.astore_n f, 1)) (hf : (f : Nat) = j) (hj : j < ls.length) (hn : j < m.2.2.1) (hp : zprev ls j = true) (kk : zX l w m M (pc + 1) (ls.set j (.inr (.inr (.ref q)))) st k σ) : zX l w m M pc ls (.inr (.inr (.ref q)) :: st) k σ := by
  intro p e s mid args below meth c C H locs Ls hR hS hl hol hos hc hs
  exact lv_astore_n C.1 C.2.1 hd hf hl hn rfl (fun Ls' hl' => kk p e s mid args below meth c C H locs Ls' hR hS (zps_store (v := .inr (.inr (.ref q))) hj hp hl') (zok_set trivial hol) (zok_t hos) hc hs)
theorem zx_astoreW {j : Nat} {q : Addr} (hd : decode m.2.1 pc = .ok (.astore j, 2)) (hj : j < ls.length) (hn : j < m.2.2.1) (hp : zprev ls j = true) (kk : zX l w m M (pc + 2) (ls.set j (.inr (.inr (.ref q)))) st k σ) : zX l w m M pc ls (.inr (.inr (.ref q)) :: st) k σ := by
  intro p e s mid args below meth c C H locs Ls hR hS hl hol hos hc hs
  exact lv_astore C.1 C.2.1 hd hl hn rfl (fun Ls' hl' => kk p e s mid args below meth c C H locs Ls' hR hS (zps_store (v := .inr (.inr (.ref q))) hj hp hl') (zok_set trivial hol) (zok_t hos) hc hs)
def zt (a : Int) : Int := (Int32.ofInt a).toInt
theorem zt_r (a : Int) : zr (zt a) := zr_t _
theorem zy_nrm {a : Int} (kk : zX l w m M pc ls (zi (zt a) :: st) k σ) : zX l w m M pc ls (zi a :: st) k σ := by
  intro p e s mid args below meth c C H locs Ls hR hS hl hol hos hc hs
  have h := kk p e s mid args below meth c C H locs Ls hR hS hl hol (zok_c trivial (zok_t hos)) hc hs
  have e1 : zc w (zi (zt a)) = .int (Int32.ofInt (zt a)) := rfl
  rw [List.map_cons, e1] at h
  unfold zt at h
  rw [z_of] at h
  exact h
theorem zy_csHq {m' : zM} {h' n' ix np : Nat} (as : List zV) {Q' : zQ} (hsp : SpH l w m' h' n' as σ Q') (hd : decode m.2.1 pc = .ok (.invokestatic ix, 3)) (hw : zCwH m.1.cls ix m') (hm : zMok m' np) (hnp : as.length = np) (hst : (st.map zcat).sum ≤ 8) (hf : zfit M m' h' n' k)
    (kret : ∀ (r : Option zV) (τ : zS), Q' (.inl r) τ → zX l w m M (pc + 3) ls (r.toList ++ st) (k + n') τ) (kthr : ∀ (E : String) (τ : zS), Q' (.inr E) τ → zXT l w m M pc ls (k + n') τ E) :
    zX l w m M pc ls (as.reverse ++ st) k σ := zx_callH hsp hd hw hm hnp hst hf kret kthr
end ZL
/-- what a method of the law answers: 0 and the answer in out[0], or the number of what was thrown -/
def LQ (Q : zQ) (Es : List String) : zQ := fun o τ => (∃ (v : Int) (υ : zS), Q (.inl (some (zi v))) υ ∧ o = .inl (some (zi 0)) ∧ τ = (υ.1, zt v)) ∨ ∃ (E : String) (i : Nat), Q (.inr E) τ ∧ Es[i]? = some E ∧ o = .inl (some (zi ((i + 1 : Nat) : Int)))

set_option maxRecDepth 20000 in
set_option maxHeartbeats 2000000 in
theorem wL_append {l : Launch} {w : zW} (hfl : l.stackTraces = false) {σ : zS} (hz : zOK σ) {h' n' : Nat} (hh : h' + 1 ≤ 10) (hn : n' ≤ 1) {Q' : zQ} {x0 x1 x2 x3 x4 : Int} (hx0 : zr x0) (hx1 : zr x1) (hx2 : zr x2) (hx3 : zr x3) (hx4 : zr x4) (hsp : Sp l w mX9_append h' n' [zf 9 0, zi x0, zi x1, zi x2, zi x3, zi x4] σ Q') (hv : ∀ o τ, Q' o τ → (∃ v : Int, o = .inl (some (zi v))) ∨ o = .inr "java/lang/IllegalStateException") : SpH l w mL_append 10 1 [zf 9 0, zi x0, zi x1, zi x2, zi x3, zi x4, zf 35 272] σ (LQ Q' ["java/lang/IllegalStateException"]) := by
  obtain ⟨Q, hQ⟩ : ∃ Q : zQ, Q = (LQ Q' ["java/lang/IllegalStateException"]) := ⟨_, rfl⟩
  rw [← hQ]
  refine zx_enterH hfl (by decide) 1 rfl ?_
  show zX l w mL_append (zMQ w 10 1 Q) 0 [zf 9 0, zi x0, zi x1, zi x2, zi x3, zi x4, zf 35 272, zu] [] 0 σ
  refine zx_aload dL_append_0 rfl ?_
  refine zx_iconst dL_append_2 ?_
  refine zx_aloadN dL_append_3 rfl rfl ?_
  refine zx_iloadN dL_append_4 rfl rfl ?_
  refine zx_iloadN dL_append_5 rfl rfl ?_
  refine zx_iloadN dL_append_6 rfl rfl ?_
  refine zx_iload dL_append_7 rfl ?_
  refine zx_iload dL_append_9 rfl ?_
  refine zy_cvq [zi x0, zi x1, zi x2, zi x3, zi x4] hsp dL_append_11 (by decide) rfl cw_RL_7 okX9_append rfl (Nat.le_of_ble_eq_true rfl) ⟨hh, by show 8 + (6 + 11) + 34 * h' ≤ 340; omega, by show 0 + (0 + n') ≤ 1; omega, by show 0 + 6 * (0 + n') ≤ 6 * 1; omega⟩ (fun r τ hq => ?_) (fun E τ hq => ?_)
  · rcases hv _ _ hq with ⟨v, e⟩ | e
    · obtain rfl := Sum.inl.inj e
      rw [show ∀ (x : zV) (s : List zV), (some x).toList ++ s = x :: s from fun _ _ => rfl]
      refine zy_nrm ?_
      have hzv := zt_r v
      refine zx_i2l (by first | exact hz _ _ | assumption | exact zr_b _ | exact zcmp_r _ _ | (unfold zr at *; omega)) dL_append_14 ?_
      refine zx_last dL_append_15 ?_
      refine zx_goto (tgt := 23) dL_append_16 (by decide) ?_
      refine zx_iconst dL_append_23 ?_
      refine zx_iret rfl rfl dL_append_24 ?_
      rw [hQ]
      exact Or.inl ⟨v, τ, hq, rfl, rfl⟩
    · cases e
  · rcases hv _ _ hq with ⟨v, e⟩ | e
    · cases e
    · obtain rfl := Sum.inr.inj e
      refine zxt_catch (name := "java/lang/IllegalStateException") (pre := []) (x := (0, 16, 19, 13)) (suf := []) rfl (fun z hz => absurd hz List.not_mem_nil) (by unfold zexs; simp) ⟨by decide, by decide⟩ (by decide) clk_13 cst_13 (fun aq => ?_)
      refine zx_astoreW dL_append_19 (Nat.le_of_ble_eq_true rfl) (Nat.le_of_ble_eq_true rfl) rfl ?_
      refine zx_iconst dL_append_21 ?_
      refine zx_iret rfl rfl dL_append_22 ?_
      rw [hQ]
      exact Or.inr ⟨_, 0, hq, rfl, rfl⟩
set_option maxRecDepth 20000 in
set_option maxHeartbeats 2000000 in
theorem wL_truncate {l : Launch} {w : zW} (hfl : l.stackTraces = false) {σ : zS} (hz : zOK σ) {h' n' : Nat} (hh : h' + 1 ≤ 10) (hn : n' ≤ 1) {Q' : zQ} {x0 : Int} (hx0 : zr x0) (hsp : Sp l w mX9_truncate h' n' [zf 9 0, zi x0] σ Q') (hv : ∀ o τ, Q' o τ → (∃ v : Int, o = .inl (some (zi v))) ∨ o = .inr "java/lang/IllegalArgumentException") : SpH l w mL_truncate 10 1 [zf 9 0, zi x0, zf 35 272] σ (LQ Q' ["java/lang/IllegalArgumentException"]) := by
  obtain ⟨Q, hQ⟩ : ∃ Q : zQ, Q = (LQ Q' ["java/lang/IllegalArgumentException"]) := ⟨_, rfl⟩
  rw [← hQ]
  refine zx_enterH hfl (by decide) 1 rfl ?_
  show zX l w mL_truncate (zMQ w 10 1 Q) 0 [zf 9 0, zi x0, zf 35 272, zu] [] 0 σ
  refine zx_aloadN dL_truncate_0 rfl rfl ?_
  refine zx_iconst dL_truncate_1 ?_
  refine zx_aloadN dL_truncate_2 rfl rfl ?_
  refine zx_iloadN dL_truncate_3 rfl rfl ?_
  refine zy_cvq [zi x0] hsp dL_truncate_4 (by decide) rfl cw_RL_15 okX9_truncate rfl (Nat.le_of_ble_eq_true rfl) ⟨hh, by show 8 + (2 + 11) + 34 * h' ≤ 340; omega, by show 0 + (0 + n') ≤ 1; omega, by show 0 + 6 * (0 + n') ≤ 6 * 1; omega⟩ (fun r τ hq => ?_) (fun E τ hq => ?_)
  · rcases hv _ _ hq with ⟨v, e⟩ | e
    · obtain rfl := Sum.inl.inj e
      rw [show ∀ (x : zV) (s : List zV), (some x).toList ++ s = x :: s from fun _ _ => rfl]
      refine zy_nrm ?_
      have hzv := zt_r v
      refine zx_i2l (by first | exact hz _ _ | assumption | exact zr_b _ | exact zcmp_r _ _ | (unfold zr at *; omega)) dL_truncate_7 ?_
      refine zx_last dL_truncate_8 ?_
      refine zx_goto (tgt := 15) dL_truncate_9 (by decide) ?_
      refine zx_iconst dL_truncate_15 ?_
      refine zx_iret rfl rfl dL_truncate_16 ?_
      rw [hQ]
      exact Or.inl ⟨v, τ, hq, rfl, rfl⟩
    · cases e
  · rcases hv _ _ hq with ⟨v, e⟩ | e
    · cases e
    · obtain rfl := Sum.inr.inj e
      refine zxt_catch (name := "java/lang/IllegalArgumentException") (pre := []) (x := (0, 9, 12, 19)) (suf := []) rfl (fun z hz => absurd hz List.not_mem_nil) (by unfold zexs; simp) ⟨by decide, by decide⟩ (by decide) clk_19 cst_19 (fun aq => ?_)
      refine zx_astoreNW dL_truncate_12 rfl (Nat.le_of_ble_eq_true rfl) (Nat.le_of_ble_eq_true rfl) rfl ?_
      refine zx_iconst dL_truncate_13 ?_
      refine zx_iret rfl rfl dL_truncate_14 ?_
      rw [hQ]
      exact Or.inr ⟨_, 0, hq, rfl, rfl⟩
set_option maxRecDepth 20000 in
set_option maxHeartbeats 2000000 in
theorem wL_load {l : Launch} {w : zW} (hfl : l.stackTraces = false) {σ : zS} (hz : zOK σ) {h' n' : Nat} (hh : h' + 1 ≤ 10) (hn : n' ≤ 1) {Q' : zQ}   (hsp : Sp l w mX9_load h' n' [zf 9 0] σ Q') (hv : ∀ o τ, Q' o τ → (∃ v : Int, o = .inl (some (zi v))) ∨ o = .inr "java/lang/IllegalArgumentException") : SpH l w mL_load 10 1 [zf 9 0, zf 35 272] σ (LQ Q' ["java/lang/IllegalArgumentException"]) := by
  obtain ⟨Q, hQ⟩ : ∃ Q : zQ, Q = (LQ Q' ["java/lang/IllegalArgumentException"]) := ⟨_, rfl⟩
  rw [← hQ]
  refine zx_enterH hfl (by decide) 1 rfl ?_
  show zX l w mL_load (zMQ w 10 1 Q) 0 [zf 9 0, zf 35 272, zu] [] 0 σ
  refine zx_aloadN dL_load_0 rfl rfl ?_
  refine zx_iconst dL_load_1 ?_
  refine zx_aloadN dL_load_2 rfl rfl ?_
  refine zy_cvq [] hsp dL_load_3 (by decide) rfl cw_RL_21 okX9_load rfl (Nat.le_of_ble_eq_true rfl) ⟨hh, by show 8 + (2 + 11) + 34 * h' ≤ 340; omega, by show 0 + (0 + n') ≤ 1; omega, by show 0 + 6 * (0 + n') ≤ 6 * 1; omega⟩ (fun r τ hq => ?_) (fun E τ hq => ?_)
  · rcases hv _ _ hq with ⟨v, e⟩ | e
    · obtain rfl := Sum.inl.inj e
      rw [show ∀ (x : zV) (s : List zV), (some x).toList ++ s = x :: s from fun _ _ => rfl]
      refine zy_nrm ?_
      have hzv := zt_r v
      refine zx_i2l (by first | exact hz _ _ | assumption | exact zr_b _ | exact zcmp_r _ _ | (unfold zr at *; omega)) dL_load_6 ?_
      refine zx_last dL_load_7 ?_
      refine zx_goto (tgt := 14) dL_load_8 (by decide) ?_
      refine zx_iconst dL_load_14 ?_
      refine zx_iret rfl rfl dL_load_15 ?_
      rw [hQ]
      exact Or.inl ⟨v, τ, hq, rfl, rfl⟩
    · cases e
  · rcases hv _ _ hq with ⟨v, e⟩ | e
    · cases e
    · obtain rfl := Sum.inr.inj e
      refine zxt_catch (name := "java/lang/IllegalArgumentException") (pre := []) (x := (0, 8, 11, 19)) (suf := []) rfl (fun z hz => absurd hz List.not_mem_nil) (by unfold zexs; simp) ⟨by decide, by decide⟩ (by decide) clk_19 cst_19 (fun aq => ?_)
      refine zx_astoreNW dL_load_11 rfl (Nat.le_of_ble_eq_true rfl) (Nat.le_of_ble_eq_true rfl) rfl ?_
      refine zx_iconst dL_load_12 ?_
      refine zx_iret rfl rfl dL_load_13 ?_
      rw [hQ]
      exact Or.inr ⟨_, 0, hq, rfl, rfl⟩
set_option maxRecDepth 20000 in
set_option maxHeartbeats 2000000 in
theorem wL_executeCommands {l : Launch} {w : zW} (hfl : l.stackTraces = false) {σ : zS} (hz : zOK σ) {h' n' : Nat} (hh : h' + 1 ≤ 10) (hn : n' ≤ 1) {Q' : zQ}   (hsp : Sp l w mX9_executeCommands h' n' [zf 9 0] σ Q') (hv : ∀ o τ, Q' o τ → (∃ v : Int, o = .inl (some (zi v))) ∨ o = .inr "java/lang/IllegalArgumentException") : SpH l w mL_executeCommands 10 1 [zf 9 0, zf 35 272] σ (LQ Q' ["java/lang/IllegalArgumentException"]) := by
  obtain ⟨Q, hQ⟩ : ∃ Q : zQ, Q = (LQ Q' ["java/lang/IllegalArgumentException"]) := ⟨_, rfl⟩
  rw [← hQ]
  refine zx_enterH hfl (by decide) 1 rfl ?_
  show zX l w mL_executeCommands (zMQ w 10 1 Q) 0 [zf 9 0, zf 35 272, zu] [] 0 σ
  refine zx_aloadN dL_executeCommands_0 rfl rfl ?_
  refine zx_iconst dL_executeCommands_1 ?_
  refine zx_aloadN dL_executeCommands_2 rfl rfl ?_
  refine zy_cvq [] hsp dL_executeCommands_3 (by decide) rfl cw_RL_25 okX9_executeCommands rfl (Nat.le_of_ble_eq_true rfl) ⟨hh, by show 8 + (3 + 11) + 34 * h' ≤ 340; omega, by show 0 + (0 + n') ≤ 1; omega, by show 0 + 6 * (0 + n') ≤ 6 * 1; omega⟩ (fun r τ hq => ?_) (fun E τ hq => ?_)
  · rcases hv _ _ hq with ⟨v, e⟩ | e
    · obtain rfl := Sum.inl.inj e
      rw [show ∀ (x : zV) (s : List zV), (some x).toList ++ s = x :: s from fun _ _ => rfl]
      refine zy_nrm ?_
      have hzv := zt_r v
      refine zx_i2l (by first | exact hz _ _ | assumption | exact zr_b _ | exact zcmp_r _ _ | (unfold zr at *; omega)) dL_executeCommands_6 ?_
      refine zx_last dL_executeCommands_7 ?_
      refine zx_goto (tgt := 14) dL_executeCommands_8 (by decide) ?_
      refine zx_iconst dL_executeCommands_14 ?_
      refine zx_iret rfl rfl dL_executeCommands_15 ?_
      rw [hQ]
      exact Or.inl ⟨v, τ, hq, rfl, rfl⟩
    · cases e
  · rcases hv _ _ hq with ⟨v, e⟩ | e
    · cases e
    · obtain rfl := Sum.inr.inj e
      refine zxt_catch (name := "java/lang/IllegalArgumentException") (pre := []) (x := (0, 8, 11, 19)) (suf := []) rfl (fun z hz => absurd hz List.not_mem_nil) (by unfold zexs; simp) ⟨by decide, by decide⟩ (by decide) clk_19 cst_19 (fun aq => ?_)
      refine zx_astoreNW dL_executeCommands_11 rfl (Nat.le_of_ble_eq_true rfl) (Nat.le_of_ble_eq_true rfl) rfl ?_
      refine zx_iconst dL_executeCommands_12 ?_
      refine zx_iret rfl rfl dL_executeCommands_13 ?_
      rw [hQ]
      exact Or.inr ⟨_, 0, hq, rfl, rfl⟩
set_option maxRecDepth 20000 in
set_option maxHeartbeats 2000000 in
theorem wL_cityOf {l : Launch} {w : zW} (hfl : l.stackTraces = false) {σ : zS} (hz : zOK σ) {h' n' : Nat} (hh : h' + 1 ≤ 10) (hn : n' ≤ 1) {Q' : zQ} {x0 : Int} (hx0 : zr x0) (hsp : Sp l w mX9_cityOf h' n' [zf 9 0, zi x0] σ Q') (hv : ∀ o τ, Q' o τ → (∃ v : Int, o = .inl (some (zi v))) ∨ o = .inr "java/lang/IndexOutOfBoundsException") : SpH l w mL_cityOf 10 1 [zf 9 0, zi x0, zf 35 272] σ (LQ Q' ["java/lang/IndexOutOfBoundsException"]) := by
  obtain ⟨Q, hQ⟩ : ∃ Q : zQ, Q = (LQ Q' ["java/lang/IndexOutOfBoundsException"]) := ⟨_, rfl⟩
  rw [← hQ]
  refine zx_enterH hfl (by decide) 1 rfl ?_
  show zX l w mL_cityOf (zMQ w 10 1 Q) 0 [zf 9 0, zi x0, zf 35 272, zu] [] 0 σ
  refine zx_aloadN dL_cityOf_0 rfl rfl ?_
  refine zx_iconst dL_cityOf_1 ?_
  refine zx_aloadN dL_cityOf_2 rfl rfl ?_
  refine zx_iloadN dL_cityOf_3 rfl rfl ?_
  refine zy_cvq [zi x0] hsp dL_cityOf_4 (by decide) rfl cw_RL_28 okX9_cityOf rfl (Nat.le_of_ble_eq_true rfl) ⟨hh, by show 8 + (2 + 11) + 34 * h' ≤ 340; omega, by show 0 + (0 + n') ≤ 1; omega, by show 0 + 6 * (0 + n') ≤ 6 * 1; omega⟩ (fun r τ hq => ?_) (fun E τ hq => ?_)
  · rcases hv _ _ hq with ⟨v, e⟩ | e
    · obtain rfl := Sum.inl.inj e
      rw [show ∀ (x : zV) (s : List zV), (some x).toList ++ s = x :: s from fun _ _ => rfl]
      refine zy_nrm ?_
      have hzv := zt_r v
      refine zx_i2l (by first | exact hz _ _ | assumption | exact zr_b _ | exact zcmp_r _ _ | (unfold zr at *; omega)) dL_cityOf_7 ?_
      refine zx_last dL_cityOf_8 ?_
      refine zx_goto (tgt := 15) dL_cityOf_9 (by decide) ?_
      refine zx_iconst dL_cityOf_15 ?_
      refine zx_iret rfl rfl dL_cityOf_16 ?_
      rw [hQ]
      exact Or.inl ⟨v, τ, hq, rfl, rfl⟩
    · cases e
  · rcases hv _ _ hq with ⟨v, e⟩ | e
    · cases e
    · obtain rfl := Sum.inr.inj e
      refine zxt_catch (name := "java/lang/IndexOutOfBoundsException") (pre := []) (x := (0, 9, 12, 31)) (suf := []) rfl (fun z hz => absurd hz List.not_mem_nil) (by unfold zexs; simp) ⟨by decide, by decide⟩ (by decide) clk_31 cst_31 (fun aq => ?_)
      refine zx_astoreNW dL_cityOf_12 rfl (Nat.le_of_ble_eq_true rfl) (Nat.le_of_ble_eq_true rfl) rfl ?_
      refine zx_iconst dL_cityOf_13 ?_
      refine zx_iret rfl rfl dL_cityOf_14 ?_
      rw [hQ]
      exact Or.inr ⟨_, 0, hq, rfl, rfl⟩
set_option maxRecDepth 20000 in
set_option maxHeartbeats 2000000 in
theorem wL_isActive {l : Launch} {w : zW} (hfl : l.stackTraces = false) {σ : zS} (hz : zOK σ) {h' n' : Nat} (hh : h' + 1 ≤ 10) (hn : n' ≤ 1) {Q' : zQ} {x0 x1 : Int} (hx0 : zr x0) (hx1 : zr x1) (hsp : Sp l w mX9_isActive h' n' [zf 9 0, zi x0, zi x1] σ Q') (hv : ∀ o τ, Q' o τ → (∃ v : Int, o = .inl (some (zi v)) ∧ (v = 0 ∨ v = 1)) ∨ o = .inr "java/lang/IndexOutOfBoundsException" ∨ o = .inr "java/lang/IllegalArgumentException") : SpH l w mL_isActive 10 1 [zf 9 0, zi x0, zi x1, zf 35 272] σ (LQ Q' ["java/lang/IndexOutOfBoundsException", "java/lang/IllegalArgumentException"]) := by
  obtain ⟨Q, hQ⟩ : ∃ Q : zQ, Q = (LQ Q' ["java/lang/IndexOutOfBoundsException", "java/lang/IllegalArgumentException"]) := ⟨_, rfl⟩
  rw [← hQ]
  refine zx_enterH hfl (by decide) 1 rfl ?_
  show zX l w mL_isActive (zMQ w 10 1 Q) 0 [zf 9 0, zi x0, zi x1, zf 35 272, zu] [] 0 σ
  refine zx_aloadN dL_isActive_0 rfl rfl ?_
  refine zx_iconst dL_isActive_1 ?_
  refine zx_aloadN dL_isActive_2 rfl rfl ?_
  refine zx_iloadN dL_isActive_3 rfl rfl ?_
  refine zx_iloadN dL_isActive_4 rfl rfl ?_
  refine zy_cvq [zi x0, zi x1] hsp dL_isActive_5 (by decide) rfl cw_RL_33 okX9_isActive rfl (Nat.le_of_ble_eq_true rfl) ⟨hh, by show 8 + (3 + 11) + 34 * h' ≤ 340; omega, by show 0 + (0 + n') ≤ 1; omega, by show 0 + 6 * (0 + n') ≤ 6 * 1; omega⟩ (fun r τ hq => ?_) (fun E τ hq => ?_)
  · rcases hv _ _ hq with ⟨v, e, hv01⟩ | e | e
    · obtain rfl := Sum.inl.inj e
      rw [show ∀ (x : zV) (s : List zV), (some x).toList ++ s = x :: s from fun _ _ => rfl]
      have hzv : zr v := by unfold zr; omega
      refine zx_if_eq (tgt := 15) (by first | exact hz _ _ | assumption | exact zr_b _ | exact zcmp_r _ _ | (unfold zr at *; omega)) dL_isActive_8 (by decide) (fun h8 => ?_) (fun h8 => ?_)
      · refine zx_lconst (a := 0) dL_isActive_15 rfl ?_
        refine zx_last dL_isActive_16 ?_
        refine zx_goto (tgt := 28) dL_isActive_17 (by decide) ?_
        refine zx_iconst dL_isActive_28 ?_
        refine zx_iret rfl rfl dL_isActive_29 ?_
        rw [hQ]
        rcases hv01 with e1 | e1
        · subst e1; first | exact Or.inl ⟨0, τ, hq, rfl, rfl⟩ | (exfalso; omega)
        · subst e1; first | exact Or.inl ⟨1, τ, hq, rfl, rfl⟩ | (exfalso; omega)
      · refine zx_lconst (a := 1) dL_isActive_11 rfl ?_
        refine zx_goto (tgt := 16) dL_isActive_12 (by decide) ?_
        refine zx_last dL_isActive_16 ?_
        refine zx_goto (tgt := 28) dL_isActive_17 (by decide) ?_
        refine zx_iconst dL_isActive_28 ?_
        refine zx_iret rfl rfl dL_isActive_29 ?_
        rw [hQ]
        rcases hv01 with e1 | e1
        · subst e1; first | exact Or.inl ⟨0, τ, hq, rfl, rfl⟩ | (exfalso; omega)
        · subst e1; first | exact Or.inl ⟨1, τ, hq, rfl, rfl⟩ | (exfalso; omega)
    · cases e
    · cases e
  · rcases hv _ _ hq with ⟨v, e, -⟩ | e | e
    · cases e
    · obtain rfl := Sum.inr.inj e
      refine zxt_catch (name := "java/lang/IndexOutOfBoundsException") (pre := []) (x := (0, 17, 20, 31)) (suf := [(0, 17, 24, 19)]) rfl (fun z hz => absurd hz List.not_mem_nil) (by unfold zexs; simp) ⟨by decide, by decide⟩ (by decide) clk_31 cst_31 (fun aq => ?_)
      refine zx_astoreW dL_isActive_20 (Nat.le_of_ble_eq_true rfl) (Nat.le_of_ble_eq_true rfl) rfl ?_
      refine zx_iconst dL_isActive_22 ?_
      refine zx_iret rfl rfl dL_isActive_23 ?_
      rw [hQ]
      exact Or.inr ⟨_, 0, hq, rfl, rfl⟩
    · obtain rfl := Sum.inr.inj e
      refine zxt_catch (name := "java/lang/IllegalArgumentException") (pre := [(0, 17, 20, 31)]) (x := (0, 17, 24, 19)) (suf := []) rfl (fun z hz => by
        simp only [List.mem_cons, List.not_mem_nil, or_false] at hz
        rcases hz with rfl
        · exact ⟨by decide, "java/lang/IndexOutOfBoundsException", (by unfold zexs; simp), clk_31, by decide⟩) (by unfold zexs; simp) ⟨by decide, by decide⟩ (by decide) clk_19 cst_19 (fun aq => ?_)
      refine zx_astoreW dL_isActive_24 (Nat.le_of_ble_eq_true rfl) (Nat.le_of_ble_eq_true rfl) rfl ?_
      refine zx_iconst dL_isActive_26 ?_
      refine zx_iret rfl rfl dL_isActive_27 ?_
      rw [hQ]
      exact Or.inr ⟨_, 1, hq, rfl, rfl⟩
set_option maxRecDepth 20000 in
set_option maxHeartbeats 2000000 in
theorem wL_hasDevice {l : Launch} {w : zW} (hfl : l.stackTraces = false) {σ : zS} (hz : zOK σ) {h' n' : Nat} (hh : h' + 1 ≤ 10) (hn : n' ≤ 1) {Q' : zQ} {x0 x1 : Int} (hx0 : zr x0) (hx1 : zr x1) (hsp : Sp l w mX9_hasDevice h' n' [zf 9 0, zi x0, zi x1] σ Q') (hv : ∀ o τ, Q' o τ → (∃ v : Int, o = .inl (some (zi v)) ∧ (v = 0 ∨ v = 1)) ∨ o = .inr "java/lang/IndexOutOfBoundsException") : SpH l w mL_hasDevice 10 1 [zf 9 0, zi x0, zi x1, zf 35 272] σ (LQ Q' ["java/lang/IndexOutOfBoundsException"]) := by
  obtain ⟨Q, hQ⟩ : ∃ Q : zQ, Q = (LQ Q' ["java/lang/IndexOutOfBoundsException"]) := ⟨_, rfl⟩
  rw [← hQ]
  refine zx_enterH hfl (by decide) 1 rfl ?_
  show zX l w mL_hasDevice (zMQ w 10 1 Q) 0 [zf 9 0, zi x0, zi x1, zf 35 272, zu] [] 0 σ
  refine zx_aloadN dL_hasDevice_0 rfl rfl ?_
  refine zx_iconst dL_hasDevice_1 ?_
  refine zx_aloadN dL_hasDevice_2 rfl rfl ?_
  refine zx_iloadN dL_hasDevice_3 rfl rfl ?_
  refine zx_iloadN dL_hasDevice_4 rfl rfl ?_
  refine zy_cvq [zi x0, zi x1] hsp dL_hasDevice_5 (by decide) rfl cw_RL_37 okX9_hasDevice rfl (Nat.le_of_ble_eq_true rfl) ⟨hh, by show 8 + (3 + 11) + 34 * h' ≤ 340; omega, by show 0 + (0 + n') ≤ 1; omega, by show 0 + 6 * (0 + n') ≤ 6 * 1; omega⟩ (fun r τ hq => ?_) (fun E τ hq => ?_)
  · rcases hv _ _ hq with ⟨v, e, hv01⟩ | e
    · obtain rfl := Sum.inl.inj e
      rw [show ∀ (x : zV) (s : List zV), (some x).toList ++ s = x :: s from fun _ _ => rfl]
      have hzv : zr v := by unfold zr; omega
      refine zx_if_eq (tgt := 15) (by first | exact hz _ _ | assumption | exact zr_b _ | exact zcmp_r _ _ | (unfold zr at *; omega)) dL_hasDevice_8 (by decide) (fun h8 => ?_) (fun h8 => ?_)
      · refine zx_lconst (a := 0) dL_hasDevice_15 rfl ?_
        refine zx_last dL_hasDevice_16 ?_
        refine zx_goto (tgt := 24) dL_hasDevice_17 (by decide) ?_
        refine zx_iconst dL_hasDevice_24 ?_
        refine zx_iret rfl rfl dL_hasDevice_25 ?_
        rw [hQ]
        rcases hv01 with e1 | e1
        · subst e1; first | exact Or.inl ⟨0, τ, hq, rfl, rfl⟩ | (exfalso; omega)
        · subst e1; first | exact Or.inl ⟨1, τ, hq, rfl, rfl⟩ | (exfalso; omega)
      · refine zx_lconst (a := 1) dL_hasDevice_11 rfl ?_
        refine zx_goto (tgt := 16) dL_hasDevice_12 (by decide) ?_
        refine zx_last dL_hasDevice_16 ?_
        refine zx_goto (tgt := 24) dL_hasDevice_17 (by decide) ?_
        refine zx_iconst dL_hasDevice_24 ?_
        refine zx_iret rfl rfl dL_hasDevice_25 ?_
        rw [hQ]
        rcases hv01 with e1 | e1
        · subst e1; first | exact Or.inl ⟨0, τ, hq, rfl, rfl⟩ | (exfalso; omega)
        · subst e1; first | exact Or.inl ⟨1, τ, hq, rfl, rfl⟩ | (exfalso; omega)
    · cases e
  · rcases hv _ _ hq with ⟨v, e, -⟩ | e
    · cases e
    · obtain rfl := Sum.inr.inj e
      refine zxt_catch (name := "java/lang/IndexOutOfBoundsException") (pre := []) (x := (0, 17, 20, 31)) (suf := []) rfl (fun z hz => absurd hz List.not_mem_nil) (by unfold zexs; simp) ⟨by decide, by decide⟩ (by decide) clk_31 cst_31 (fun aq => ?_)
      refine zx_astoreW dL_hasDevice_20 (Nat.le_of_ble_eq_true rfl) (Nat.le_of_ble_eq_true rfl) rfl ?_
      refine zx_iconst dL_hasDevice_22 ?_
      refine zx_iret rfl rfl dL_hasDevice_23 ?_
      rw [hQ]
      exact Or.inr ⟨_, 0, hq, rfl, rfl⟩
set_option maxRecDepth 20000 in
set_option maxHeartbeats 2000000 in
theorem wL_hasTypeface {l : Launch} {w : zW} (hfl : l.stackTraces = false) {σ : zS} (hz : zOK σ) {h' n' : Nat} (hh : h' + 1 ≤ 10) (hn : n' ≤ 1) {Q' : zQ} {x0 x1 : Int} (hx0 : zr x0) (hx1 : zr x1) (hsp : Sp l w mX9_hasTypeface h' n' [zf 9 0, zi x0, zi x1] σ Q') (hv : ∀ o τ, Q' o τ → (∃ v : Int, o = .inl (some (zi v)) ∧ (v = 0 ∨ v = 1)) ∨ o = .inr "java/lang/IndexOutOfBoundsException") : SpH l w mL_hasTypeface 10 1 [zf 9 0, zi x0, zi x1, zf 35 272] σ (LQ Q' ["java/lang/IndexOutOfBoundsException"]) := by
  obtain ⟨Q, hQ⟩ : ∃ Q : zQ, Q = (LQ Q' ["java/lang/IndexOutOfBoundsException"]) := ⟨_, rfl⟩
  rw [← hQ]
  refine zx_enterH hfl (by decide) 1 rfl ?_
  show zX l w mL_hasTypeface (zMQ w 10 1 Q) 0 [zf 9 0, zi x0, zi x1, zf 35 272, zu] [] 0 σ
  refine zx_aloadN dL_hasTypeface_0 rfl rfl ?_
  refine zx_iconst dL_hasTypeface_1 ?_
  refine zx_aloadN dL_hasTypeface_2 rfl rfl ?_
  refine zx_iloadN dL_hasTypeface_3 rfl rfl ?_
  refine zx_iloadN dL_hasTypeface_4 rfl rfl ?_
  refine zy_cvq [zi x0, zi x1] hsp dL_hasTypeface_5 (by decide) rfl cw_RL_40 okX9_hasTypeface rfl (Nat.le_of_ble_eq_true rfl) ⟨hh, by show 8 + (3 + 11) + 34 * h' ≤ 340; omega, by show 0 + (0 + n') ≤ 1; omega, by show 0 + 6 * (0 + n') ≤ 6 * 1; omega⟩ (fun r τ hq => ?_) (fun E τ hq => ?_)
  · rcases hv _ _ hq with ⟨v, e, hv01⟩ | e
    · obtain rfl := Sum.inl.inj e
      rw [show ∀ (x : zV) (s : List zV), (some x).toList ++ s = x :: s from fun _ _ => rfl]
      have hzv : zr v := by unfold zr; omega
      refine zx_if_eq (tgt := 15) (by first | exact hz _ _ | assumption | exact zr_b _ | exact zcmp_r _ _ | (unfold zr at *; omega)) dL_hasTypeface_8 (by decide) (fun h8 => ?_) (fun h8 => ?_)
      · refine zx_lconst (a := 0) dL_hasTypeface_15 rfl ?_
        refine zx_last dL_hasTypeface_16 ?_
        refine zx_goto (tgt := 24) dL_hasTypeface_17 (by decide) ?_
        refine zx_iconst dL_hasTypeface_24 ?_
        refine zx_iret rfl rfl dL_hasTypeface_25 ?_
        rw [hQ]
        rcases hv01 with e1 | e1
        · subst e1; first | exact Or.inl ⟨0, τ, hq, rfl, rfl⟩ | (exfalso; omega)
        · subst e1; first | exact Or.inl ⟨1, τ, hq, rfl, rfl⟩ | (exfalso; omega)
      · refine zx_lconst (a := 1) dL_hasTypeface_11 rfl ?_
        refine zx_goto (tgt := 16) dL_hasTypeface_12 (by decide) ?_
        refine zx_last dL_hasTypeface_16 ?_
        refine zx_goto (tgt := 24) dL_hasTypeface_17 (by decide) ?_
        refine zx_iconst dL_hasTypeface_24 ?_
        refine zx_iret rfl rfl dL_hasTypeface_25 ?_
        rw [hQ]
        rcases hv01 with e1 | e1
        · subst e1; first | exact Or.inl ⟨0, τ, hq, rfl, rfl⟩ | (exfalso; omega)
        · subst e1; first | exact Or.inl ⟨1, τ, hq, rfl, rfl⟩ | (exfalso; omega)
    · cases e
  · rcases hv _ _ hq with ⟨v, e, -⟩ | e
    · cases e
    · obtain rfl := Sum.inr.inj e
      refine zxt_catch (name := "java/lang/IndexOutOfBoundsException") (pre := []) (x := (0, 17, 20, 31)) (suf := []) rfl (fun z hz => absurd hz List.not_mem_nil) (by unfold zexs; simp) ⟨by decide, by decide⟩ (by decide) clk_31 cst_31 (fun aq => ?_)
      refine zx_astoreW dL_hasTypeface_20 (Nat.le_of_ble_eq_true rfl) (Nat.le_of_ble_eq_true rfl) rfl ?_
      refine zx_iconst dL_hasTypeface_22 ?_
      refine zx_iret rfl rfl dL_hasTypeface_23 ?_
      rw [hQ]
      exact Or.inr ⟨_, 0, hq, rfl, rfl⟩
set_option maxRecDepth 20000 in
set_option maxHeartbeats 2000000 in
theorem wL_watermarksOf {l : Launch} {w : zW} (hfl : l.stackTraces = false) {σ : zS} (hz : zOK σ) {h' n' : Nat} (hh : h' + 1 ≤ 10) (hn : n' ≤ 1) {Q' : zQ} {x0 : Int} (hx0 : zr x0) (hsp : Sp l w mX9_watermarksOf h' n' [zf 9 0, zi x0] σ Q') (hv : ∀ o τ, Q' o τ → (∃ v : Int, o = .inl (some (zi v))) ∨ o = .inr "java/lang/IllegalArgumentException") : SpH l w mL_watermarksOf 10 1 [zf 9 0, zi x0, zf 35 272] σ (LQ Q' ["java/lang/IllegalArgumentException"]) := by
  obtain ⟨Q, hQ⟩ : ∃ Q : zQ, Q = (LQ Q' ["java/lang/IllegalArgumentException"]) := ⟨_, rfl⟩
  rw [← hQ]
  refine zx_enterH hfl (by decide) 1 rfl ?_
  show zX l w mL_watermarksOf (zMQ w 10 1 Q) 0 [zf 9 0, zi x0, zf 35 272, zu] [] 0 σ
  refine zx_aloadN dL_watermarksOf_0 rfl rfl ?_
  refine zx_iconst dL_watermarksOf_1 ?_
  refine zx_aloadN dL_watermarksOf_2 rfl rfl ?_
  refine zx_iloadN dL_watermarksOf_3 rfl rfl ?_
  refine zy_cvq [zi x0] hsp dL_watermarksOf_4 (by decide) rfl cw_RL_43 okX9_watermarksOf rfl (Nat.le_of_ble_eq_true rfl) ⟨hh, by show 8 + (4 + 11) + 34 * h' ≤ 340; omega, by show 0 + (0 + n') ≤ 1; omega, by show 0 + 6 * (0 + n') ≤ 6 * 1; omega⟩ (fun r τ hq => ?_) (fun E τ hq => ?_)
  · rcases hv _ _ hq with ⟨v, e⟩ | e
    · obtain rfl := Sum.inl.inj e
      rw [show ∀ (x : zV) (s : List zV), (some x).toList ++ s = x :: s from fun _ _ => rfl]
      refine zy_nrm ?_
      have hzv := zt_r v
      refine zx_i2l (by first | exact hz _ _ | assumption | exact zr_b _ | exact zcmp_r _ _ | (unfold zr at *; omega)) dL_watermarksOf_7 ?_
      refine zx_last dL_watermarksOf_8 ?_
      refine zx_goto (tgt := 15) dL_watermarksOf_9 (by decide) ?_
      refine zx_iconst dL_watermarksOf_15 ?_
      refine zx_iret rfl rfl dL_watermarksOf_16 ?_
      rw [hQ]
      exact Or.inl ⟨v, τ, hq, rfl, rfl⟩
    · cases e
  · rcases hv _ _ hq with ⟨v, e⟩ | e
    · cases e
    · obtain rfl := Sum.inr.inj e
      refine zxt_catch (name := "java/lang/IllegalArgumentException") (pre := []) (x := (0, 9, 12, 19)) (suf := []) rfl (fun z hz => absurd hz List.not_mem_nil) (by unfold zexs; simp) ⟨by decide, by decide⟩ (by decide) clk_19 cst_19 (fun aq => ?_)
      refine zx_astoreNW dL_watermarksOf_12 rfl (Nat.le_of_ble_eq_true rfl) (Nat.le_of_ble_eq_true rfl) rfl ?_
      refine zx_iconst dL_watermarksOf_13 ?_
      refine zx_iret rfl rfl dL_watermarksOf_14 ?_
      rw [hQ]
      exact Or.inr ⟨_, 0, hq, rfl, rfl⟩
set_option maxRecDepth 20000 in
set_option maxHeartbeats 2000000 in
theorem wL_kindOf {l : Launch} {w : zW} (hfl : l.stackTraces = false) {σ : zS} (hz : zOK σ) {h' n' : Nat} (hh : h' + 1 ≤ 10) (hn : n' ≤ 1) {Q' : zQ} {x0 : Int} (hx0 : zr x0) (hsp : Sp l w mX9_kindOf h' n' [zf 9 0, zi x0] σ Q') (hv : ∀ o τ, Q' o τ → (∃ v : Int, o = .inl (some (zi v))) ∨ o = .inr "java/lang/IndexOutOfBoundsException") : SpH l w mL_kindOf 10 1 [zf 9 0, zi x0, zf 35 272] σ (LQ Q' ["java/lang/IndexOutOfBoundsException"]) := by
  obtain ⟨Q, hQ⟩ : ∃ Q : zQ, Q = (LQ Q' ["java/lang/IndexOutOfBoundsException"]) := ⟨_, rfl⟩
  rw [← hQ]
  refine zx_enterH hfl (by decide) 1 rfl ?_
  show zX l w mL_kindOf (zMQ w 10 1 Q) 0 [zf 9 0, zi x0, zf 35 272, zu] [] 0 σ
  refine zx_aloadN dL_kindOf_0 rfl rfl ?_
  refine zx_iconst dL_kindOf_1 ?_
  refine zx_aloadN dL_kindOf_2 rfl rfl ?_
  refine zx_iloadN dL_kindOf_3 rfl rfl ?_
  refine zy_cvq [zi x0] hsp dL_kindOf_4 (by decide) rfl cw_RL_46 okX9_kindOf rfl (Nat.le_of_ble_eq_true rfl) ⟨hh, by show 8 + (2 + 11) + 34 * h' ≤ 340; omega, by show 0 + (0 + n') ≤ 1; omega, by show 0 + 6 * (0 + n') ≤ 6 * 1; omega⟩ (fun r τ hq => ?_) (fun E τ hq => ?_)
  · rcases hv _ _ hq with ⟨v, e⟩ | e
    · obtain rfl := Sum.inl.inj e
      rw [show ∀ (x : zV) (s : List zV), (some x).toList ++ s = x :: s from fun _ _ => rfl]
      refine zy_nrm ?_
      have hzv := zt_r v
      refine zx_i2l (by first | exact hz _ _ | assumption | exact zr_b _ | exact zcmp_r _ _ | (unfold zr at *; omega)) dL_kindOf_7 ?_
      refine zx_last dL_kindOf_8 ?_
      refine zx_goto (tgt := 15) dL_kindOf_9 (by decide) ?_
      refine zx_iconst dL_kindOf_15 ?_
      refine zx_iret rfl rfl dL_kindOf_16 ?_
      rw [hQ]
      exact Or.inl ⟨v, τ, hq, rfl, rfl⟩
    · cases e
  · rcases hv _ _ hq with ⟨v, e⟩ | e
    · cases e
    · obtain rfl := Sum.inr.inj e
      refine zxt_catch (name := "java/lang/IndexOutOfBoundsException") (pre := []) (x := (0, 9, 12, 31)) (suf := []) rfl (fun z hz => absurd hz List.not_mem_nil) (by unfold zexs; simp) ⟨by decide, by decide⟩ (by decide) clk_31 cst_31 (fun aq => ?_)
      refine zx_astoreNW dL_kindOf_12 rfl (Nat.le_of_ble_eq_true rfl) (Nat.le_of_ble_eq_true rfl) rfl ?_
      refine zx_iconst dL_kindOf_13 ?_
      refine zx_iret rfl rfl dL_kindOf_14 ?_
      rw [hQ]
      exact Or.inr ⟨_, 0, hq, rfl, rfl⟩
set_option maxRecDepth 20000 in
set_option maxHeartbeats 2000000 in
theorem wL_valueOf {l : Launch} {w : zW} (hfl : l.stackTraces = false) {σ : zS} (hz : zOK σ) {h' n' : Nat} (hh : h' + 1 ≤ 10) (hn : n' ≤ 1) {Q' : zQ} {x0 : Int} (hx0 : zr x0) (hsp : Sp l w mX9_valueOf h' n' [zf 9 0, zi x0] σ Q') (hv : ∀ o τ, Q' o τ → (∃ v : Int, o = .inl (some (zi v))) ∨ o = .inr "java/lang/IndexOutOfBoundsException") : SpH l w mL_valueOf 10 1 [zf 9 0, zi x0, zf 35 272] σ (LQ Q' ["java/lang/IndexOutOfBoundsException"]) := by
  obtain ⟨Q, hQ⟩ : ∃ Q : zQ, Q = (LQ Q' ["java/lang/IndexOutOfBoundsException"]) := ⟨_, rfl⟩
  rw [← hQ]
  refine zx_enterH hfl (by decide) 1 rfl ?_
  show zX l w mL_valueOf (zMQ w 10 1 Q) 0 [zf 9 0, zi x0, zf 35 272, zu] [] 0 σ
  refine zx_aloadN dL_valueOf_0 rfl rfl ?_
  refine zx_iconst dL_valueOf_1 ?_
  refine zx_aloadN dL_valueOf_2 rfl rfl ?_
  refine zx_iloadN dL_valueOf_3 rfl rfl ?_
  refine zy_cvq [zi x0] hsp dL_valueOf_4 (by decide) rfl cw_RL_49 okX9_valueOf rfl (Nat.le_of_ble_eq_true rfl) ⟨hh, by show 8 + (2 + 11) + 34 * h' ≤ 340; omega, by show 0 + (0 + n') ≤ 1; omega, by show 0 + 6 * (0 + n') ≤ 6 * 1; omega⟩ (fun r τ hq => ?_) (fun E τ hq => ?_)
  · rcases hv _ _ hq with ⟨v, e⟩ | e
    · obtain rfl := Sum.inl.inj e
      rw [show ∀ (x : zV) (s : List zV), (some x).toList ++ s = x :: s from fun _ _ => rfl]
      refine zy_nrm ?_
      have hzv := zt_r v
      refine zx_i2l (by first | exact hz _ _ | assumption | exact zr_b _ | exact zcmp_r _ _ | (unfold zr at *; omega)) dL_valueOf_7 ?_
      refine zx_last dL_valueOf_8 ?_
      refine zx_goto (tgt := 15) dL_valueOf_9 (by decide) ?_
      refine zx_iconst dL_valueOf_15 ?_
      refine zx_iret rfl rfl dL_valueOf_16 ?_
      rw [hQ]
      exact Or.inl ⟨v, τ, hq, rfl, rfl⟩
    · cases e
  · rcases hv _ _ hq with ⟨v, e⟩ | e
    · cases e
    · obtain rfl := Sum.inr.inj e
      refine zxt_catch (name := "java/lang/IndexOutOfBoundsException") (pre := []) (x := (0, 9, 12, 31)) (suf := []) rfl (fun z hz => absurd hz List.not_mem_nil) (by unfold zexs; simp) ⟨by decide, by decide⟩ (by decide) clk_31 cst_31 (fun aq => ?_)
      refine zx_astoreNW dL_valueOf_12 rfl (Nat.le_of_ble_eq_true rfl) (Nat.le_of_ble_eq_true rfl) rfl ?_
      refine zx_iconst dL_valueOf_13 ?_
      refine zx_iret rfl rfl dL_valueOf_14 ?_
      rw [hQ]
      exact Or.inr ⟨_, 0, hq, rfl, rfl⟩
set_option maxRecDepth 20000 in
set_option maxHeartbeats 2000000 in
theorem wL_pageOf {l : Launch} {w : zW} (hfl : l.stackTraces = false) {σ : zS} (hz : zOK σ) {h' n' : Nat} (hh : h' + 1 ≤ 10) (hn : n' ≤ 1) {Q' : zQ} {x0 : Int} (hx0 : zr x0) (hsp : Sp l w mX9_pageOf h' n' [zf 9 0, zi x0] σ Q') (hv : ∀ o τ, Q' o τ → (∃ v : Int, o = .inl (some (zi v))) ∨ o = .inr "java/lang/IndexOutOfBoundsException") : SpH l w mL_pageOf 10 1 [zf 9 0, zi x0, zf 35 272] σ (LQ Q' ["java/lang/IndexOutOfBoundsException"]) := by
  obtain ⟨Q, hQ⟩ : ∃ Q : zQ, Q = (LQ Q' ["java/lang/IndexOutOfBoundsException"]) := ⟨_, rfl⟩
  rw [← hQ]
  refine zx_enterH hfl (by decide) 1 rfl ?_
  show zX l w mL_pageOf (zMQ w 10 1 Q) 0 [zf 9 0, zi x0, zf 35 272, zu] [] 0 σ
  refine zx_aloadN dL_pageOf_0 rfl rfl ?_
  refine zx_iconst dL_pageOf_1 ?_
  refine zx_aloadN dL_pageOf_2 rfl rfl ?_
  refine zx_iloadN dL_pageOf_3 rfl rfl ?_
  refine zy_cvq [zi x0] hsp dL_pageOf_4 (by decide) rfl cw_RL_52 okX9_pageOf rfl (Nat.le_of_ble_eq_true rfl) ⟨hh, by show 8 + (2 + 11) + 34 * h' ≤ 340; omega, by show 0 + (0 + n') ≤ 1; omega, by show 0 + 6 * (0 + n') ≤ 6 * 1; omega⟩ (fun r τ hq => ?_) (fun E τ hq => ?_)
  · rcases hv _ _ hq with ⟨v, e⟩ | e
    · obtain rfl := Sum.inl.inj e
      rw [show ∀ (x : zV) (s : List zV), (some x).toList ++ s = x :: s from fun _ _ => rfl]
      refine zy_nrm ?_
      have hzv := zt_r v
      refine zx_i2l (by first | exact hz _ _ | assumption | exact zr_b _ | exact zcmp_r _ _ | (unfold zr at *; omega)) dL_pageOf_7 ?_
      refine zx_last dL_pageOf_8 ?_
      refine zx_goto (tgt := 15) dL_pageOf_9 (by decide) ?_
      refine zx_iconst dL_pageOf_15 ?_
      refine zx_iret rfl rfl dL_pageOf_16 ?_
      rw [hQ]
      exact Or.inl ⟨v, τ, hq, rfl, rfl⟩
    · cases e
  · rcases hv _ _ hq with ⟨v, e⟩ | e
    · cases e
    · obtain rfl := Sum.inr.inj e
      refine zxt_catch (name := "java/lang/IndexOutOfBoundsException") (pre := []) (x := (0, 9, 12, 31)) (suf := []) rfl (fun z hz => absurd hz List.not_mem_nil) (by unfold zexs; simp) ⟨by decide, by decide⟩ (by decide) clk_31 cst_31 (fun aq => ?_)
      refine zx_astoreNW dL_pageOf_12 rfl (Nat.le_of_ble_eq_true rfl) (Nat.le_of_ble_eq_true rfl) rfl ?_
      refine zx_iconst dL_pageOf_13 ?_
      refine zx_iret rfl rfl dL_pageOf_14 ?_
      rw [hQ]
      exact Or.inr ⟨_, 0, hq, rfl, rfl⟩
set_option maxRecDepth 20000 in
set_option maxHeartbeats 2000000 in
theorem wL_weightOf {l : Launch} {w : zW} (hfl : l.stackTraces = false) {σ : zS} (hz : zOK σ) {h' n' : Nat} (hh : h' + 1 ≤ 10) (hn : n' ≤ 1) {Q' : zQ} {x0 : Int} (hx0 : zr x0) (hsp : Sp l w mX9_weightOf h' n' [zf 9 0, zi x0] σ Q') (hv : ∀ o τ, Q' o τ → (∃ v : Int, o = .inl (some (zi v))) ∨ o = .inr "java/lang/IndexOutOfBoundsException") : SpH l w mL_weightOf 10 1 [zf 9 0, zi x0, zf 35 272] σ (LQ Q' ["java/lang/IndexOutOfBoundsException"]) := by
  obtain ⟨Q, hQ⟩ : ∃ Q : zQ, Q = (LQ Q' ["java/lang/IndexOutOfBoundsException"]) := ⟨_, rfl⟩
  rw [← hQ]
  refine zx_enterH hfl (by decide) 1 rfl ?_
  show zX l w mL_weightOf (zMQ w 10 1 Q) 0 [zf 9 0, zi x0, zf 35 272, zu] [] 0 σ
  refine zx_aloadN dL_weightOf_0 rfl rfl ?_
  refine zx_iconst dL_weightOf_1 ?_
  refine zx_aloadN dL_weightOf_2 rfl rfl ?_
  refine zx_iloadN dL_weightOf_3 rfl rfl ?_
  refine zy_cvq [zi x0] hsp dL_weightOf_4 (by decide) rfl cw_RL_55 okX9_weightOf rfl (Nat.le_of_ble_eq_true rfl) ⟨hh, by show 8 + (2 + 11) + 34 * h' ≤ 340; omega, by show 0 + (0 + n') ≤ 1; omega, by show 0 + 6 * (0 + n') ≤ 6 * 1; omega⟩ (fun r τ hq => ?_) (fun E τ hq => ?_)
  · rcases hv _ _ hq with ⟨v, e⟩ | e
    · obtain rfl := Sum.inl.inj e
      rw [show ∀ (x : zV) (s : List zV), (some x).toList ++ s = x :: s from fun _ _ => rfl]
      refine zy_nrm ?_
      have hzv := zt_r v
      refine zx_i2l (by first | exact hz _ _ | assumption | exact zr_b _ | exact zcmp_r _ _ | (unfold zr at *; omega)) dL_weightOf_7 ?_
      refine zx_last dL_weightOf_8 ?_
      refine zx_goto (tgt := 15) dL_weightOf_9 (by decide) ?_
      refine zx_iconst dL_weightOf_15 ?_
      refine zx_iret rfl rfl dL_weightOf_16 ?_
      rw [hQ]
      exact Or.inl ⟨v, τ, hq, rfl, rfl⟩
    · cases e
  · rcases hv _ _ hq with ⟨v, e⟩ | e
    · cases e
    · obtain rfl := Sum.inr.inj e
      refine zxt_catch (name := "java/lang/IndexOutOfBoundsException") (pre := []) (x := (0, 9, 12, 31)) (suf := []) rfl (fun z hz => absurd hz List.not_mem_nil) (by unfold zexs; simp) ⟨by decide, by decide⟩ (by decide) clk_31 cst_31 (fun aq => ?_)
      refine zx_astoreNW dL_weightOf_12 rfl (Nat.le_of_ble_eq_true rfl) (Nat.le_of_ble_eq_true rfl) rfl ?_
      refine zx_iconst dL_weightOf_13 ?_
      refine zx_iret rfl rfl dL_weightOf_14 ?_
      rw [hQ]
      exact Or.inr ⟨_, 0, hq, rfl, rfl⟩
set_option maxRecDepth 20000 in
set_option maxHeartbeats 2000000 in
theorem wL_isRead {l : Launch} {w : zW} (hfl : l.stackTraces = false) {σ : zS} (hz : zOK σ) {h' n' : Nat} (hh : h' + 1 ≤ 10) (hn : n' ≤ 1) {Q' : zQ} {x0 : Int} (hx0 : zr x0) (hsp : Sp l w mX9_isRead h' n' [zf 9 0, zi x0] σ Q') (hv : ∀ o τ, Q' o τ → (∃ v : Int, o = .inl (some (zi v)) ∧ (v = 0 ∨ v = 1)) ∨ o = .inr "java/lang/IndexOutOfBoundsException") : SpH l w mL_isRead 10 1 [zf 9 0, zi x0, zf 35 272] σ (LQ Q' ["java/lang/IndexOutOfBoundsException"]) := by
  obtain ⟨Q, hQ⟩ : ∃ Q : zQ, Q = (LQ Q' ["java/lang/IndexOutOfBoundsException"]) := ⟨_, rfl⟩
  rw [← hQ]
  refine zx_enterH hfl (by decide) 1 rfl ?_
  show zX l w mL_isRead (zMQ w 10 1 Q) 0 [zf 9 0, zi x0, zf 35 272, zu] [] 0 σ
  refine zx_aloadN dL_isRead_0 rfl rfl ?_
  refine zx_iconst dL_isRead_1 ?_
  refine zx_aloadN dL_isRead_2 rfl rfl ?_
  refine zx_iloadN dL_isRead_3 rfl rfl ?_
  refine zy_cvq [zi x0] hsp dL_isRead_4 (by decide) rfl cw_RL_58 okX9_isRead rfl (Nat.le_of_ble_eq_true rfl) ⟨hh, by show 8 + (2 + 11) + 34 * h' ≤ 340; omega, by show 0 + (0 + n') ≤ 1; omega, by show 0 + 6 * (0 + n') ≤ 6 * 1; omega⟩ (fun r τ hq => ?_) (fun E τ hq => ?_)
  · rcases hv _ _ hq with ⟨v, e, hv01⟩ | e
    · obtain rfl := Sum.inl.inj e
      rw [show ∀ (x : zV) (s : List zV), (some x).toList ++ s = x :: s from fun _ _ => rfl]
      have hzv : zr v := by unfold zr; omega
      refine zx_if_eq (tgt := 14) (by first | exact hz _ _ | assumption | exact zr_b _ | exact zcmp_r _ _ | (unfold zr at *; omega)) dL_isRead_7 (by decide) (fun h7 => ?_) (fun h7 => ?_)
      · refine zx_lconst (a := 0) dL_isRead_14 rfl ?_
        refine zx_last dL_isRead_15 ?_
        refine zx_goto (tgt := 22) dL_isRead_16 (by decide) ?_
        refine zx_iconst dL_isRead_22 ?_
        refine zx_iret rfl rfl dL_isRead_23 ?_
        rw [hQ]
        rcases hv01 with e1 | e1
        · subst e1; first | exact Or.inl ⟨0, τ, hq, rfl, rfl⟩ | (exfalso; omega)
        · subst e1; first | exact Or.inl ⟨1, τ, hq, rfl, rfl⟩ | (exfalso; omega)
      · refine zx_lconst (a := 1) dL_isRead_10 rfl ?_
        refine zx_goto (tgt := 15) dL_isRead_11 (by decide) ?_
        refine zx_last dL_isRead_15 ?_
        refine zx_goto (tgt := 22) dL_isRead_16 (by decide) ?_
        refine zx_iconst dL_isRead_22 ?_
        refine zx_iret rfl rfl dL_isRead_23 ?_
        rw [hQ]
        rcases hv01 with e1 | e1
        · subst e1; first | exact Or.inl ⟨0, τ, hq, rfl, rfl⟩ | (exfalso; omega)
        · subst e1; first | exact Or.inl ⟨1, τ, hq, rfl, rfl⟩ | (exfalso; omega)
    · cases e
  · rcases hv _ _ hq with ⟨v, e, -⟩ | e
    · cases e
    · obtain rfl := Sum.inr.inj e
      refine zxt_catch (name := "java/lang/IndexOutOfBoundsException") (pre := []) (x := (0, 16, 19, 31)) (suf := []) rfl (fun z hz => absurd hz List.not_mem_nil) (by unfold zexs; simp) ⟨by decide, by decide⟩ (by decide) clk_31 cst_31 (fun aq => ?_)
      refine zx_astoreNW dL_isRead_19 rfl (Nat.le_of_ble_eq_true rfl) (Nat.le_of_ble_eq_true rfl) rfl ?_
      refine zx_iconst dL_isRead_20 ?_
      refine zx_iret rfl rfl dL_isRead_21 ?_
      rw [hQ]
      exact Or.inr ⟨_, 0, hq, rfl, rfl⟩
set_option maxRecDepth 20000 in
set_option maxHeartbeats 2000000 in
theorem wL_isAside {l : Launch} {w : zW} (hfl : l.stackTraces = false) {σ : zS} (hz : zOK σ) {h' n' : Nat} (hh : h' + 1 ≤ 10) (hn : n' ≤ 1) {Q' : zQ} {x0 : Int} (hx0 : zr x0) (hsp : Sp l w mX9_isAside h' n' [zf 9 0, zi x0] σ Q') (hv : ∀ o τ, Q' o τ → (∃ v : Int, o = .inl (some (zi v)) ∧ (v = 0 ∨ v = 1)) ∨ o = .inr "java/lang/IndexOutOfBoundsException") : SpH l w mL_isAside 10 1 [zf 9 0, zi x0, zf 35 272] σ (LQ Q' ["java/lang/IndexOutOfBoundsException"]) := by
  obtain ⟨Q, hQ⟩ : ∃ Q : zQ, Q = (LQ Q' ["java/lang/IndexOutOfBoundsException"]) := ⟨_, rfl⟩
  rw [← hQ]
  refine zx_enterH hfl (by decide) 1 rfl ?_
  show zX l w mL_isAside (zMQ w 10 1 Q) 0 [zf 9 0, zi x0, zf 35 272, zu] [] 0 σ
  refine zx_aloadN dL_isAside_0 rfl rfl ?_
  refine zx_iconst dL_isAside_1 ?_
  refine zx_aloadN dL_isAside_2 rfl rfl ?_
  refine zx_iloadN dL_isAside_3 rfl rfl ?_
  refine zy_cvq [zi x0] hsp dL_isAside_4 (by decide) rfl cw_RL_62 okX9_isAside rfl (Nat.le_of_ble_eq_true rfl) ⟨hh, by show 8 + (2 + 11) + 34 * h' ≤ 340; omega, by show 0 + (0 + n') ≤ 1; omega, by show 0 + 6 * (0 + n') ≤ 6 * 1; omega⟩ (fun r τ hq => ?_) (fun E τ hq => ?_)
  · rcases hv _ _ hq with ⟨v, e, hv01⟩ | e
    · obtain rfl := Sum.inl.inj e
      rw [show ∀ (x : zV) (s : List zV), (some x).toList ++ s = x :: s from fun _ _ => rfl]
      have hzv : zr v := by unfold zr; omega
      refine zx_if_eq (tgt := 14) (by first | exact hz _ _ | assumption | exact zr_b _ | exact zcmp_r _ _ | (unfold zr at *; omega)) dL_isAside_7 (by decide) (fun h7 => ?_) (fun h7 => ?_)
      · refine zx_lconst (a := 0) dL_isAside_14 rfl ?_
        refine zx_last dL_isAside_15 ?_
        refine zx_goto (tgt := 22) dL_isAside_16 (by decide) ?_
        refine zx_iconst dL_isAside_22 ?_
        refine zx_iret rfl rfl dL_isAside_23 ?_
        rw [hQ]
        rcases hv01 with e1 | e1
        · subst e1; first | exact Or.inl ⟨0, τ, hq, rfl, rfl⟩ | (exfalso; omega)
        · subst e1; first | exact Or.inl ⟨1, τ, hq, rfl, rfl⟩ | (exfalso; omega)
      · refine zx_lconst (a := 1) dL_isAside_10 rfl ?_
        refine zx_goto (tgt := 15) dL_isAside_11 (by decide) ?_
        refine zx_last dL_isAside_15 ?_
        refine zx_goto (tgt := 22) dL_isAside_16 (by decide) ?_
        refine zx_iconst dL_isAside_22 ?_
        refine zx_iret rfl rfl dL_isAside_23 ?_
        rw [hQ]
        rcases hv01 with e1 | e1
        · subst e1; first | exact Or.inl ⟨0, τ, hq, rfl, rfl⟩ | (exfalso; omega)
        · subst e1; first | exact Or.inl ⟨1, τ, hq, rfl, rfl⟩ | (exfalso; omega)
    · cases e
  · rcases hv _ _ hq with ⟨v, e, -⟩ | e
    · cases e
    · obtain rfl := Sum.inr.inj e
      refine zxt_catch (name := "java/lang/IndexOutOfBoundsException") (pre := []) (x := (0, 16, 19, 31)) (suf := []) rfl (fun z hz => absurd hz List.not_mem_nil) (by unfold zexs; simp) ⟨by decide, by decide⟩ (by decide) clk_31 cst_31 (fun aq => ?_)
      refine zx_astoreNW dL_isAside_19 rfl (Nat.le_of_ble_eq_true rfl) (Nat.le_of_ble_eq_true rfl) rfl ?_
      refine zx_iconst dL_isAside_20 ?_
      refine zx_iret rfl rfl dL_isAside_21 ?_
      rw [hQ]
      exact Or.inr ⟨_, 0, hq, rfl, rfl⟩
set_option maxRecDepth 20000 in
set_option maxHeartbeats 2000000 in
theorem wL_explains {l : Launch} {w : zW} (hfl : l.stackTraces = false) {σ : zS} (hz : zOK σ) {h' n' : Nat} (hh : h' + 1 ≤ 10) (hn : n' ≤ 1) {Q' : zQ} {x0 x1 x2 : Int} (hx0 : zr x0) (hx1 : zr x1) (hx2 : zr x2) (hsp : Sp l w mX9_explains h' n' [zf 9 0, zi x0, zi x1, zi x2] σ Q') (hv : ∀ o τ, Q' o τ → (∃ v : Int, o = .inl (some (zi v)) ∧ (v = 0 ∨ v = 1)) ∨ o = .inr "java/lang/IndexOutOfBoundsException" ∨ o = .inr "java/lang/IllegalArgumentException") : SpH l w mL_explains 10 1 [zf 9 0, zi x0, zi x1, zi x2, zf 35 272] σ (LQ Q' ["java/lang/IndexOutOfBoundsException", "java/lang/IllegalArgumentException"]) := by
  obtain ⟨Q, hQ⟩ : ∃ Q : zQ, Q = (LQ Q' ["java/lang/IndexOutOfBoundsException", "java/lang/IllegalArgumentException"]) := ⟨_, rfl⟩
  rw [← hQ]
  refine zx_enterH hfl (by decide) 1 rfl ?_
  show zX l w mL_explains (zMQ w 10 1 Q) 0 [zf 9 0, zi x0, zi x1, zi x2, zf 35 272, zu] [] 0 σ
  refine zx_aload dL_explains_0 rfl ?_
  refine zx_iconst dL_explains_2 ?_
  refine zx_aloadN dL_explains_3 rfl rfl ?_
  refine zx_iloadN dL_explains_4 rfl rfl ?_
  refine zx_iloadN dL_explains_5 rfl rfl ?_
  refine zx_iloadN dL_explains_6 rfl rfl ?_
  refine zy_cvq [zi x0, zi x1, zi x2] hsp dL_explains_7 (by decide) rfl cw_RL_65 okX9_explains rfl (Nat.le_of_ble_eq_true rfl) ⟨hh, by show 8 + (4 + 11) + 34 * h' ≤ 340; omega, by show 0 + (0 + n') ≤ 1; omega, by show 0 + 6 * (0 + n') ≤ 6 * 1; omega⟩ (fun r τ hq => ?_) (fun E τ hq => ?_)
  · rcases hv _ _ hq with ⟨v, e, hv01⟩ | e | e
    · obtain rfl := Sum.inl.inj e
      rw [show ∀ (x : zV) (s : List zV), (some x).toList ++ s = x :: s from fun _ _ => rfl]
      have hzv : zr v := by unfold zr; omega
      refine zx_if_eq (tgt := 17) (by first | exact hz _ _ | assumption | exact zr_b _ | exact zcmp_r _ _ | (unfold zr at *; omega)) dL_explains_10 (by decide) (fun h10 => ?_) (fun h10 => ?_)
      · refine zx_lconst (a := 0) dL_explains_17 rfl ?_
        refine zx_last dL_explains_18 ?_
        refine zx_goto (tgt := 30) dL_explains_19 (by decide) ?_
        refine zx_iconst dL_explains_30 ?_
        refine zx_iret rfl rfl dL_explains_31 ?_
        rw [hQ]
        rcases hv01 with e1 | e1
        · subst e1; first | exact Or.inl ⟨0, τ, hq, rfl, rfl⟩ | (exfalso; omega)
        · subst e1; first | exact Or.inl ⟨1, τ, hq, rfl, rfl⟩ | (exfalso; omega)
      · refine zx_lconst (a := 1) dL_explains_13 rfl ?_
        refine zx_goto (tgt := 18) dL_explains_14 (by decide) ?_
        refine zx_last dL_explains_18 ?_
        refine zx_goto (tgt := 30) dL_explains_19 (by decide) ?_
        refine zx_iconst dL_explains_30 ?_
        refine zx_iret rfl rfl dL_explains_31 ?_
        rw [hQ]
        rcases hv01 with e1 | e1
        · subst e1; first | exact Or.inl ⟨0, τ, hq, rfl, rfl⟩ | (exfalso; omega)
        · subst e1; first | exact Or.inl ⟨1, τ, hq, rfl, rfl⟩ | (exfalso; omega)
    · cases e
    · cases e
  · rcases hv _ _ hq with ⟨v, e, -⟩ | e | e
    · cases e
    · obtain rfl := Sum.inr.inj e
      refine zxt_catch (name := "java/lang/IndexOutOfBoundsException") (pre := []) (x := (0, 19, 22, 31)) (suf := [(0, 19, 26, 19)]) rfl (fun z hz => absurd hz List.not_mem_nil) (by unfold zexs; simp) ⟨by decide, by decide⟩ (by decide) clk_31 cst_31 (fun aq => ?_)
      refine zx_astoreW dL_explains_22 (Nat.le_of_ble_eq_true rfl) (Nat.le_of_ble_eq_true rfl) rfl ?_
      refine zx_iconst dL_explains_24 ?_
      refine zx_iret rfl rfl dL_explains_25 ?_
      rw [hQ]
      exact Or.inr ⟨_, 0, hq, rfl, rfl⟩
    · obtain rfl := Sum.inr.inj e
      refine zxt_catch (name := "java/lang/IllegalArgumentException") (pre := [(0, 19, 22, 31)]) (x := (0, 19, 26, 19)) (suf := []) rfl (fun z hz => by
        simp only [List.mem_cons, List.not_mem_nil, or_false] at hz
        rcases hz with rfl
        · exact ⟨by decide, "java/lang/IndexOutOfBoundsException", (by unfold zexs; simp), clk_31, by decide⟩) (by unfold zexs; simp) ⟨by decide, by decide⟩ (by decide) clk_19 cst_19 (fun aq => ?_)
      refine zx_astoreW dL_explains_26 (Nat.le_of_ble_eq_true rfl) (Nat.le_of_ble_eq_true rfl) rfl ?_
      refine zx_iconst dL_explains_28 ?_
      refine zx_iret rfl rfl dL_explains_29 ?_
      rw [hQ]
      exact Or.inr ⟨_, 1, hq, rfl, rfl⟩
set_option maxRecDepth 20000 in
set_option maxHeartbeats 2000000 in
theorem wL_score {l : Launch} {w : zW} (hfl : l.stackTraces = false) {σ : zS} (hz : zOK σ) {h' n' : Nat} (hh : h' + 1 ≤ 10) (hn : n' ≤ 1) {Q' : zQ} {x0 x1 : Int} (hx0 : zr x0) (hx1 : zr x1) (hsp : Sp l w mX9_score h' n' [zf 9 0, zi x0, zi x1] σ Q') (hv : ∀ o τ, Q' o τ → (∃ v : Int, o = .inl (some (zi v))) ∨ o = .inr "java/lang/IndexOutOfBoundsException" ∨ o = .inr "java/lang/IllegalArgumentException") : SpH l w mL_score 10 1 [zf 9 0, zi x0, zi x1, zf 35 272] σ (LQ Q' ["java/lang/IndexOutOfBoundsException", "java/lang/IllegalArgumentException"]) := by
  obtain ⟨Q, hQ⟩ : ∃ Q : zQ, Q = (LQ Q' ["java/lang/IndexOutOfBoundsException", "java/lang/IllegalArgumentException"]) := ⟨_, rfl⟩
  rw [← hQ]
  refine zx_enterH hfl (by decide) 1 rfl ?_
  show zX l w mL_score (zMQ w 10 1 Q) 0 [zf 9 0, zi x0, zi x1, zf 35 272, zu] [] 0 σ
  refine zx_aloadN dL_score_0 rfl rfl ?_
  refine zx_iconst dL_score_1 ?_
  refine zx_aloadN dL_score_2 rfl rfl ?_
  refine zx_iloadN dL_score_3 rfl rfl ?_
  refine zx_iloadN dL_score_4 rfl rfl ?_
  refine zy_cvq [zi x0, zi x1] hsp dL_score_5 (by decide) rfl cw_RL_69 okX9_score rfl (Nat.le_of_ble_eq_true rfl) ⟨hh, by show 8 + (5 + 11) + 34 * h' ≤ 340; omega, by show 0 + (0 + n') ≤ 1; omega, by show 0 + 6 * (0 + n') ≤ 6 * 1; omega⟩ (fun r τ hq => ?_) (fun E τ hq => ?_)
  · rcases hv _ _ hq with ⟨v, e⟩ | e | e
    · obtain rfl := Sum.inl.inj e
      rw [show ∀ (x : zV) (s : List zV), (some x).toList ++ s = x :: s from fun _ _ => rfl]
      refine zy_nrm ?_
      have hzv := zt_r v
      refine zx_i2l (by first | exact hz _ _ | assumption | exact zr_b _ | exact zcmp_r _ _ | (unfold zr at *; omega)) dL_score_8 ?_
      refine zx_last dL_score_9 ?_
      refine zx_goto (tgt := 21) dL_score_10 (by decide) ?_
      refine zx_iconst dL_score_21 ?_
      refine zx_iret rfl rfl dL_score_22 ?_
      rw [hQ]
      exact Or.inl ⟨v, τ, hq, rfl, rfl⟩
    · cases e
    · cases e
  · rcases hv _ _ hq with ⟨v, e⟩ | e | e
    · cases e
    · obtain rfl := Sum.inr.inj e
      refine zxt_catch (name := "java/lang/IndexOutOfBoundsException") (pre := []) (x := (0, 10, 13, 31)) (suf := [(0, 10, 17, 19)]) rfl (fun z hz => absurd hz List.not_mem_nil) (by unfold zexs; simp) ⟨by decide, by decide⟩ (by decide) clk_31 cst_31 (fun aq => ?_)
      refine zx_astoreW dL_score_13 (Nat.le_of_ble_eq_true rfl) (Nat.le_of_ble_eq_true rfl) rfl ?_
      refine zx_iconst dL_score_15 ?_
      refine zx_iret rfl rfl dL_score_16 ?_
      rw [hQ]
      exact Or.inr ⟨_, 0, hq, rfl, rfl⟩
    · obtain rfl := Sum.inr.inj e
      refine zxt_catch (name := "java/lang/IllegalArgumentException") (pre := [(0, 10, 13, 31)]) (x := (0, 10, 17, 19)) (suf := []) rfl (fun z hz => by
        simp only [List.mem_cons, List.not_mem_nil, or_false] at hz
        rcases hz with rfl
        · exact ⟨by decide, "java/lang/IndexOutOfBoundsException", (by unfold zexs; simp), clk_31, by decide⟩) (by unfold zexs; simp) ⟨by decide, by decide⟩ (by decide) clk_19 cst_19 (fun aq => ?_)
      refine zx_astoreW dL_score_17 (Nat.le_of_ble_eq_true rfl) (Nat.le_of_ble_eq_true rfl) rfl ?_
      refine zx_iconst dL_score_19 ?_
      refine zx_iret rfl rfl dL_score_20 ?_
      rw [hQ]
      exact Or.inr ⟨_, 1, hq, rfl, rfl⟩
set_option maxRecDepth 20000 in
set_option maxHeartbeats 2000000 in
theorem wL_bestYear {l : Launch} {w : zW} (hfl : l.stackTraces = false) {σ : zS} (hz : zOK σ) {h' n' : Nat} (hh : h' + 1 ≤ 10) (hn : n' ≤ 1) {Q' : zQ} {x0 : Int} (hx0 : zr x0) (hsp : Sp l w mX9_bestYear h' n' [zf 9 0, zi x0] σ Q') (hv : ∀ o τ, Q' o τ → (∃ v : Int, o = .inl (some (zi v))) ∨ o = .inr "java/lang/IndexOutOfBoundsException") : SpH l w mL_bestYear 10 1 [zf 9 0, zi x0, zf 35 272] σ (LQ Q' ["java/lang/IndexOutOfBoundsException"]) := by
  obtain ⟨Q, hQ⟩ : ∃ Q : zQ, Q = (LQ Q' ["java/lang/IndexOutOfBoundsException"]) := ⟨_, rfl⟩
  rw [← hQ]
  refine zx_enterH hfl (by decide) 1 rfl ?_
  show zX l w mL_bestYear (zMQ w 10 1 Q) 0 [zf 9 0, zi x0, zf 35 272, zu] [] 0 σ
  refine zx_aloadN dL_bestYear_0 rfl rfl ?_
  refine zx_iconst dL_bestYear_1 ?_
  refine zx_aloadN dL_bestYear_2 rfl rfl ?_
  refine zx_iloadN dL_bestYear_3 rfl rfl ?_
  refine zy_cvq [zi x0] hsp dL_bestYear_4 (by decide) rfl cw_RL_73 okX9_bestYear rfl (Nat.le_of_ble_eq_true rfl) ⟨hh, by show 8 + (2 + 11) + 34 * h' ≤ 340; omega, by show 0 + (0 + n') ≤ 1; omega, by show 0 + 6 * (0 + n') ≤ 6 * 1; omega⟩ (fun r τ hq => ?_) (fun E τ hq => ?_)
  · rcases hv _ _ hq with ⟨v, e⟩ | e
    · obtain rfl := Sum.inl.inj e
      rw [show ∀ (x : zV) (s : List zV), (some x).toList ++ s = x :: s from fun _ _ => rfl]
      refine zy_nrm ?_
      have hzv := zt_r v
      refine zx_i2l (by first | exact hz _ _ | assumption | exact zr_b _ | exact zcmp_r _ _ | (unfold zr at *; omega)) dL_bestYear_7 ?_
      refine zx_last dL_bestYear_8 ?_
      refine zx_goto (tgt := 15) dL_bestYear_9 (by decide) ?_
      refine zx_iconst dL_bestYear_15 ?_
      refine zx_iret rfl rfl dL_bestYear_16 ?_
      rw [hQ]
      exact Or.inl ⟨v, τ, hq, rfl, rfl⟩
    · cases e
  · rcases hv _ _ hq with ⟨v, e⟩ | e
    · cases e
    · obtain rfl := Sum.inr.inj e
      refine zxt_catch (name := "java/lang/IndexOutOfBoundsException") (pre := []) (x := (0, 9, 12, 31)) (suf := []) rfl (fun z hz => absurd hz List.not_mem_nil) (by unfold zexs; simp) ⟨by decide, by decide⟩ (by decide) clk_31 cst_31 (fun aq => ?_)
      refine zx_astoreNW dL_bestYear_12 rfl (Nat.le_of_ble_eq_true rfl) (Nat.le_of_ble_eq_true rfl) rfl ?_
      refine zx_iconst dL_bestYear_13 ?_
      refine zx_iret rfl rfl dL_bestYear_14 ?_
      rw [hQ]
      exact Or.inr ⟨_, 0, hq, rfl, rfl⟩
set_option maxRecDepth 20000 in
set_option maxHeartbeats 2000000 in
theorem wL_bestScore {l : Launch} {w : zW} (hfl : l.stackTraces = false) {σ : zS} (hz : zOK σ) {h' n' : Nat} (hh : h' + 1 ≤ 10) (hn : n' ≤ 1) {Q' : zQ} {x0 : Int} (hx0 : zr x0) (hsp : Sp l w mX9_bestScore h' n' [zf 9 0, zi x0] σ Q') (hv : ∀ o τ, Q' o τ → (∃ v : Int, o = .inl (some (zi v))) ∨ o = .inr "java/lang/IndexOutOfBoundsException") : SpH l w mL_bestScore 10 1 [zf 9 0, zi x0, zf 35 272] σ (LQ Q' ["java/lang/IndexOutOfBoundsException"]) := by
  obtain ⟨Q, hQ⟩ : ∃ Q : zQ, Q = (LQ Q' ["java/lang/IndexOutOfBoundsException"]) := ⟨_, rfl⟩
  rw [← hQ]
  refine zx_enterH hfl (by decide) 1 rfl ?_
  show zX l w mL_bestScore (zMQ w 10 1 Q) 0 [zf 9 0, zi x0, zf 35 272, zu] [] 0 σ
  refine zx_aloadN dL_bestScore_0 rfl rfl ?_
  refine zx_iconst dL_bestScore_1 ?_
  refine zx_aloadN dL_bestScore_2 rfl rfl ?_
  refine zx_iloadN dL_bestScore_3 rfl rfl ?_
  refine zy_cvq [zi x0] hsp dL_bestScore_4 (by decide) rfl cw_RL_76 okX9_bestScore rfl (Nat.le_of_ble_eq_true rfl) ⟨hh, by show 8 + (2 + 11) + 34 * h' ≤ 340; omega, by show 0 + (0 + n') ≤ 1; omega, by show 0 + 6 * (0 + n') ≤ 6 * 1; omega⟩ (fun r τ hq => ?_) (fun E τ hq => ?_)
  · rcases hv _ _ hq with ⟨v, e⟩ | e
    · obtain rfl := Sum.inl.inj e
      rw [show ∀ (x : zV) (s : List zV), (some x).toList ++ s = x :: s from fun _ _ => rfl]
      refine zy_nrm ?_
      have hzv := zt_r v
      refine zx_i2l (by first | exact hz _ _ | assumption | exact zr_b _ | exact zcmp_r _ _ | (unfold zr at *; omega)) dL_bestScore_7 ?_
      refine zx_last dL_bestScore_8 ?_
      refine zx_goto (tgt := 15) dL_bestScore_9 (by decide) ?_
      refine zx_iconst dL_bestScore_15 ?_
      refine zx_iret rfl rfl dL_bestScore_16 ?_
      rw [hQ]
      exact Or.inl ⟨v, τ, hq, rfl, rfl⟩
    · cases e
  · rcases hv _ _ hq with ⟨v, e⟩ | e
    · cases e
    · obtain rfl := Sum.inr.inj e
      refine zxt_catch (name := "java/lang/IndexOutOfBoundsException") (pre := []) (x := (0, 9, 12, 31)) (suf := []) rfl (fun z hz => absurd hz List.not_mem_nil) (by unfold zexs; simp) ⟨by decide, by decide⟩ (by decide) clk_31 cst_31 (fun aq => ?_)
      refine zx_astoreNW dL_bestScore_12 rfl (Nat.le_of_ble_eq_true rfl) (Nat.le_of_ble_eq_true rfl) rfl ?_
      refine zx_iconst dL_bestScore_13 ?_
      refine zx_iret rfl rfl dL_bestScore_14 ?_
      rw [hQ]
      exact Or.inr ⟨_, 0, hq, rfl, rfl⟩
set_option maxRecDepth 20000 in
set_option maxHeartbeats 2000000 in
theorem wL_bestYears {l : Launch} {w : zW} (hfl : l.stackTraces = false) {σ : zS} (hz : zOK σ) {h' n' : Nat} (hh : h' + 1 ≤ 10) (hn : n' ≤ 1) {Q' : zQ} {x0 : Int} (hx0 : zr x0) (hsp : Sp l w mX9_bestYears h' n' [zf 9 0, zi x0] σ Q') (hv : ∀ o τ, Q' o τ → (∃ v : Int, o = .inl (some (zi v))) ∨ o = .inr "java/lang/IndexOutOfBoundsException") : SpH l w mL_bestYears 10 1 [zf 9 0, zi x0, zf 35 272] σ (LQ Q' ["java/lang/IndexOutOfBoundsException"]) := by
  obtain ⟨Q, hQ⟩ : ∃ Q : zQ, Q = (LQ Q' ["java/lang/IndexOutOfBoundsException"]) := ⟨_, rfl⟩
  rw [← hQ]
  refine zx_enterH hfl (by decide) 1 rfl ?_
  show zX l w mL_bestYears (zMQ w 10 1 Q) 0 [zf 9 0, zi x0, zf 35 272, zu] [] 0 σ
  refine zx_aloadN dL_bestYears_0 rfl rfl ?_
  refine zx_iconst dL_bestYears_1 ?_
  refine zx_aloadN dL_bestYears_2 rfl rfl ?_
  refine zx_iloadN dL_bestYears_3 rfl rfl ?_
  refine zy_cvq [zi x0] hsp dL_bestYears_4 (by decide) rfl cw_RL_79 okX9_bestYears rfl (Nat.le_of_ble_eq_true rfl) ⟨hh, by show 8 + (2 + 11) + 34 * h' ≤ 340; omega, by show 0 + (0 + n') ≤ 1; omega, by show 0 + 6 * (0 + n') ≤ 6 * 1; omega⟩ (fun r τ hq => ?_) (fun E τ hq => ?_)
  · rcases hv _ _ hq with ⟨v, e⟩ | e
    · obtain rfl := Sum.inl.inj e
      rw [show ∀ (x : zV) (s : List zV), (some x).toList ++ s = x :: s from fun _ _ => rfl]
      refine zy_nrm ?_
      have hzv := zt_r v
      refine zx_i2l (by first | exact hz _ _ | assumption | exact zr_b _ | exact zcmp_r _ _ | (unfold zr at *; omega)) dL_bestYears_7 ?_
      refine zx_last dL_bestYears_8 ?_
      refine zx_goto (tgt := 15) dL_bestYears_9 (by decide) ?_
      refine zx_iconst dL_bestYears_15 ?_
      refine zx_iret rfl rfl dL_bestYears_16 ?_
      rw [hQ]
      exact Or.inl ⟨v, τ, hq, rfl, rfl⟩
    · cases e
  · rcases hv _ _ hq with ⟨v, e⟩ | e
    · cases e
    · obtain rfl := Sum.inr.inj e
      refine zxt_catch (name := "java/lang/IndexOutOfBoundsException") (pre := []) (x := (0, 9, 12, 31)) (suf := []) rfl (fun z hz => absurd hz List.not_mem_nil) (by unfold zexs; simp) ⟨by decide, by decide⟩ (by decide) clk_31 cst_31 (fun aq => ?_)
      refine zx_astoreNW dL_bestYears_12 rfl (Nat.le_of_ble_eq_true rfl) (Nat.le_of_ble_eq_true rfl) rfl ?_
      refine zx_iconst dL_bestYears_13 ?_
      refine zx_iret rfl rfl dL_bestYears_14 ?_
      rw [hQ]
      exact Or.inr ⟨_, 0, hq, rfl, rfl⟩
set_option maxRecDepth 20000 in
set_option maxHeartbeats 2000000 in
theorem wL_contradict {l : Launch} {w : zW} (hfl : l.stackTraces = false) {σ : zS} (hz : zOK σ) {h' n' : Nat} (hh : h' + 1 ≤ 10) (hn : n' ≤ 1) {Q' : zQ} {x0 x1 : Int} (hx0 : zr x0) (hx1 : zr x1) (hsp : Sp l w mX9_contradict h' n' [zf 9 0, zi x0, zi x1] σ Q') (hv : ∀ o τ, Q' o τ → (∃ v : Int, o = .inl (some (zi v)) ∧ (v = 0 ∨ v = 1)) ∨ o = .inr "java/lang/IndexOutOfBoundsException") : SpH l w mL_contradict 10 1 [zf 9 0, zi x0, zi x1, zf 35 272] σ (LQ Q' ["java/lang/IndexOutOfBoundsException"]) := by
  obtain ⟨Q, hQ⟩ : ∃ Q : zQ, Q = (LQ Q' ["java/lang/IndexOutOfBoundsException"]) := ⟨_, rfl⟩
  rw [← hQ]
  refine zx_enterH hfl (by decide) 1 rfl ?_
  show zX l w mL_contradict (zMQ w 10 1 Q) 0 [zf 9 0, zi x0, zi x1, zf 35 272, zu] [] 0 σ
  refine zx_aloadN dL_contradict_0 rfl rfl ?_
  refine zx_iconst dL_contradict_1 ?_
  refine zx_aloadN dL_contradict_2 rfl rfl ?_
  refine zx_iloadN dL_contradict_3 rfl rfl ?_
  refine zx_iloadN dL_contradict_4 rfl rfl ?_
  refine zy_cvq [zi x0, zi x1] hsp dL_contradict_5 (by decide) rfl cw_RL_82 okX9_contradict rfl (Nat.le_of_ble_eq_true rfl) ⟨hh, by show 8 + (3 + 11) + 34 * h' ≤ 340; omega, by show 0 + (0 + n') ≤ 1; omega, by show 0 + 6 * (0 + n') ≤ 6 * 1; omega⟩ (fun r τ hq => ?_) (fun E τ hq => ?_)
  · rcases hv _ _ hq with ⟨v, e, hv01⟩ | e
    · obtain rfl := Sum.inl.inj e
      rw [show ∀ (x : zV) (s : List zV), (some x).toList ++ s = x :: s from fun _ _ => rfl]
      have hzv : zr v := by unfold zr; omega
      refine zx_if_eq (tgt := 15) (by first | exact hz _ _ | assumption | exact zr_b _ | exact zcmp_r _ _ | (unfold zr at *; omega)) dL_contradict_8 (by decide) (fun h8 => ?_) (fun h8 => ?_)
      · refine zx_lconst (a := 0) dL_contradict_15 rfl ?_
        refine zx_last dL_contradict_16 ?_
        refine zx_goto (tgt := 24) dL_contradict_17 (by decide) ?_
        refine zx_iconst dL_contradict_24 ?_
        refine zx_iret rfl rfl dL_contradict_25 ?_
        rw [hQ]
        rcases hv01 with e1 | e1
        · subst e1; first | exact Or.inl ⟨0, τ, hq, rfl, rfl⟩ | (exfalso; omega)
        · subst e1; first | exact Or.inl ⟨1, τ, hq, rfl, rfl⟩ | (exfalso; omega)
      · refine zx_lconst (a := 1) dL_contradict_11 rfl ?_
        refine zx_goto (tgt := 16) dL_contradict_12 (by decide) ?_
        refine zx_last dL_contradict_16 ?_
        refine zx_goto (tgt := 24) dL_contradict_17 (by decide) ?_
        refine zx_iconst dL_contradict_24 ?_
        refine zx_iret rfl rfl dL_contradict_25 ?_
        rw [hQ]
        rcases hv01 with e1 | e1
        · subst e1; first | exact Or.inl ⟨0, τ, hq, rfl, rfl⟩ | (exfalso; omega)
        · subst e1; first | exact Or.inl ⟨1, τ, hq, rfl, rfl⟩ | (exfalso; omega)
    · cases e
  · rcases hv _ _ hq with ⟨v, e, -⟩ | e
    · cases e
    · obtain rfl := Sum.inr.inj e
      refine zxt_catch (name := "java/lang/IndexOutOfBoundsException") (pre := []) (x := (0, 17, 20, 31)) (suf := []) rfl (fun z hz => absurd hz List.not_mem_nil) (by unfold zexs; simp) ⟨by decide, by decide⟩ (by decide) clk_31 cst_31 (fun aq => ?_)
      refine zx_astoreW dL_contradict_20 (Nat.le_of_ble_eq_true rfl) (Nat.le_of_ble_eq_true rfl) rfl ?_
      refine zx_iconst dL_contradict_22 ?_
      refine zx_iret rfl rfl dL_contradict_23 ?_
      rw [hQ]
      exact Or.inr ⟨_, 0, hq, rfl, rfl⟩
set_option maxRecDepth 20000 in
set_option maxHeartbeats 2000000 in
theorem wL_contradictionsOf {l : Launch} {w : zW} (hfl : l.stackTraces = false) {σ : zS} (hz : zOK σ) {h' n' : Nat} (hh : h' + 1 ≤ 10) (hn : n' ≤ 1) {Q' : zQ} {x0 : Int} (hx0 : zr x0) (hsp : Sp l w mX9_contradictionsOf h' n' [zf 9 0, zi x0] σ Q') (hv : ∀ o τ, Q' o τ → (∃ v : Int, o = .inl (some (zi v))) ∨ o = .inr "java/lang/IndexOutOfBoundsException") : SpH l w mL_contradictionsOf 10 1 [zf 9 0, zi x0, zf 35 272] σ (LQ Q' ["java/lang/IndexOutOfBoundsException"]) := by
  obtain ⟨Q, hQ⟩ : ∃ Q : zQ, Q = (LQ Q' ["java/lang/IndexOutOfBoundsException"]) := ⟨_, rfl⟩
  rw [← hQ]
  refine zx_enterH hfl (by decide) 1 rfl ?_
  show zX l w mL_contradictionsOf (zMQ w 10 1 Q) 0 [zf 9 0, zi x0, zf 35 272, zu] [] 0 σ
  refine zx_aloadN dL_contradictionsOf_0 rfl rfl ?_
  refine zx_iconst dL_contradictionsOf_1 ?_
  refine zx_aloadN dL_contradictionsOf_2 rfl rfl ?_
  refine zx_iloadN dL_contradictionsOf_3 rfl rfl ?_
  refine zy_cvq [zi x0] hsp dL_contradictionsOf_4 (by decide) rfl cw_RL_85 okX9_contradictionsOf rfl (Nat.le_of_ble_eq_true rfl) ⟨hh, by show 8 + (4 + 11) + 34 * h' ≤ 340; omega, by show 0 + (0 + n') ≤ 1; omega, by show 0 + 6 * (0 + n') ≤ 6 * 1; omega⟩ (fun r τ hq => ?_) (fun E τ hq => ?_)
  · rcases hv _ _ hq with ⟨v, e⟩ | e
    · obtain rfl := Sum.inl.inj e
      rw [show ∀ (x : zV) (s : List zV), (some x).toList ++ s = x :: s from fun _ _ => rfl]
      refine zy_nrm ?_
      have hzv := zt_r v
      refine zx_i2l (by first | exact hz _ _ | assumption | exact zr_b _ | exact zcmp_r _ _ | (unfold zr at *; omega)) dL_contradictionsOf_7 ?_
      refine zx_last dL_contradictionsOf_8 ?_
      refine zx_goto (tgt := 15) dL_contradictionsOf_9 (by decide) ?_
      refine zx_iconst dL_contradictionsOf_15 ?_
      refine zx_iret rfl rfl dL_contradictionsOf_16 ?_
      rw [hQ]
      exact Or.inl ⟨v, τ, hq, rfl, rfl⟩
    · cases e
  · rcases hv _ _ hq with ⟨v, e⟩ | e
    · cases e
    · obtain rfl := Sum.inr.inj e
      refine zxt_catch (name := "java/lang/IndexOutOfBoundsException") (pre := []) (x := (0, 9, 12, 31)) (suf := []) rfl (fun z hz => absurd hz List.not_mem_nil) (by unfold zexs; simp) ⟨by decide, by decide⟩ (by decide) clk_31 cst_31 (fun aq => ?_)
      refine zx_astoreNW dL_contradictionsOf_12 rfl (Nat.le_of_ble_eq_true rfl) (Nat.le_of_ble_eq_true rfl) rfl ?_
      refine zx_iconst dL_contradictionsOf_13 ?_
      refine zx_iret rfl rfl dL_contradictionsOf_14 ?_
      rw [hQ]
      exact Or.inr ⟨_, 0, hq, rfl, rfl⟩
set_option maxRecDepth 20000 in
set_option maxHeartbeats 2000000 in
theorem wL_printerAfter {l : Launch} {w : zW} (hfl : l.stackTraces = false) {σ : zS} (hz : zOK σ) {h' n' : Nat} (hh : h' + 1 ≤ 10) (hn : n' ≤ 1) {Q' : zQ} {x0 : Int} (hx0 : zr x0) (hsp : Sp l w mX9_printerAfter h' n' [zf 9 0, zi x0] σ Q') (hv : ∀ o τ, Q' o τ → (∃ v : Int, o = .inl (some (zi v))) ∨ o = .inr "java/lang/IllegalArgumentException") : SpH l w mL_printerAfter 10 1 [zf 9 0, zi x0, zf 35 272] σ (LQ Q' ["java/lang/IllegalArgumentException"]) := by
  obtain ⟨Q, hQ⟩ : ∃ Q : zQ, Q = (LQ Q' ["java/lang/IllegalArgumentException"]) := ⟨_, rfl⟩
  rw [← hQ]
  refine zx_enterH hfl (by decide) 1 rfl ?_
  show zX l w mL_printerAfter (zMQ w 10 1 Q) 0 [zf 9 0, zi x0, zf 35 272, zu] [] 0 σ
  refine zx_aloadN dL_printerAfter_0 rfl rfl ?_
  refine zx_iconst dL_printerAfter_1 ?_
  refine zx_aloadN dL_printerAfter_2 rfl rfl ?_
  refine zx_iloadN dL_printerAfter_3 rfl rfl ?_
  refine zy_cvq [zi x0] hsp dL_printerAfter_4 (by decide) rfl cw_RL_88 okX9_printerAfter rfl (Nat.le_of_ble_eq_true rfl) ⟨hh, by show 8 + (2 + 11) + 34 * h' ≤ 340; omega, by show 0 + (0 + n') ≤ 1; omega, by show 0 + 6 * (0 + n') ≤ 6 * 1; omega⟩ (fun r τ hq => ?_) (fun E τ hq => ?_)
  · rcases hv _ _ hq with ⟨v, e⟩ | e
    · obtain rfl := Sum.inl.inj e
      rw [show ∀ (x : zV) (s : List zV), (some x).toList ++ s = x :: s from fun _ _ => rfl]
      refine zy_nrm ?_
      have hzv := zt_r v
      refine zx_i2l (by first | exact hz _ _ | assumption | exact zr_b _ | exact zcmp_r _ _ | (unfold zr at *; omega)) dL_printerAfter_7 ?_
      refine zx_last dL_printerAfter_8 ?_
      refine zx_goto (tgt := 15) dL_printerAfter_9 (by decide) ?_
      refine zx_iconst dL_printerAfter_15 ?_
      refine zx_iret rfl rfl dL_printerAfter_16 ?_
      rw [hQ]
      exact Or.inl ⟨v, τ, hq, rfl, rfl⟩
    · cases e
  · rcases hv _ _ hq with ⟨v, e⟩ | e
    · cases e
    · obtain rfl := Sum.inr.inj e
      refine zxt_catch (name := "java/lang/IllegalArgumentException") (pre := []) (x := (0, 9, 12, 19)) (suf := []) rfl (fun z hz => absurd hz List.not_mem_nil) (by unfold zexs; simp) ⟨by decide, by decide⟩ (by decide) clk_19 cst_19 (fun aq => ?_)
      refine zx_astoreNW dL_printerAfter_12 rfl (Nat.le_of_ble_eq_true rfl) (Nat.le_of_ble_eq_true rfl) rfl ?_
      refine zx_iconst dL_printerAfter_13 ?_
      refine zx_iret rfl rfl dL_printerAfter_14 ?_
      rw [hQ]
      exact Or.inr ⟨_, 0, hq, rfl, rfl⟩
set_option maxRecDepth 20000 in
set_option maxHeartbeats 2000000 in
theorem wL_yearAfter {l : Launch} {w : zW} (hfl : l.stackTraces = false) {σ : zS} (hz : zOK σ) {h' n' : Nat} (hh : h' + 1 ≤ 10) (hn : n' ≤ 1) {Q' : zQ} {x0 : Int} (hx0 : zr x0) (hsp : Sp l w mX9_yearAfter h' n' [zf 9 0, zi x0] σ Q') (hv : ∀ o τ, Q' o τ → (∃ v : Int, o = .inl (some (zi v))) ∨ o = .inr "java/lang/IllegalArgumentException") : SpH l w mL_yearAfter 10 1 [zf 9 0, zi x0, zf 35 272] σ (LQ Q' ["java/lang/IllegalArgumentException"]) := by
  obtain ⟨Q, hQ⟩ : ∃ Q : zQ, Q = (LQ Q' ["java/lang/IllegalArgumentException"]) := ⟨_, rfl⟩
  rw [← hQ]
  refine zx_enterH hfl (by decide) 1 rfl ?_
  show zX l w mL_yearAfter (zMQ w 10 1 Q) 0 [zf 9 0, zi x0, zf 35 272, zu] [] 0 σ
  refine zx_aloadN dL_yearAfter_0 rfl rfl ?_
  refine zx_iconst dL_yearAfter_1 ?_
  refine zx_aloadN dL_yearAfter_2 rfl rfl ?_
  refine zx_iloadN dL_yearAfter_3 rfl rfl ?_
  refine zy_cvq [zi x0] hsp dL_yearAfter_4 (by decide) rfl cw_RL_91 okX9_yearAfter rfl (Nat.le_of_ble_eq_true rfl) ⟨hh, by show 8 + (2 + 11) + 34 * h' ≤ 340; omega, by show 0 + (0 + n') ≤ 1; omega, by show 0 + 6 * (0 + n') ≤ 6 * 1; omega⟩ (fun r τ hq => ?_) (fun E τ hq => ?_)
  · rcases hv _ _ hq with ⟨v, e⟩ | e
    · obtain rfl := Sum.inl.inj e
      rw [show ∀ (x : zV) (s : List zV), (some x).toList ++ s = x :: s from fun _ _ => rfl]
      refine zy_nrm ?_
      have hzv := zt_r v
      refine zx_i2l (by first | exact hz _ _ | assumption | exact zr_b _ | exact zcmp_r _ _ | (unfold zr at *; omega)) dL_yearAfter_7 ?_
      refine zx_last dL_yearAfter_8 ?_
      refine zx_goto (tgt := 15) dL_yearAfter_9 (by decide) ?_
      refine zx_iconst dL_yearAfter_15 ?_
      refine zx_iret rfl rfl dL_yearAfter_16 ?_
      rw [hQ]
      exact Or.inl ⟨v, τ, hq, rfl, rfl⟩
    · cases e
  · rcases hv _ _ hq with ⟨v, e⟩ | e
    · cases e
    · obtain rfl := Sum.inr.inj e
      refine zxt_catch (name := "java/lang/IllegalArgumentException") (pre := []) (x := (0, 9, 12, 19)) (suf := []) rfl (fun z hz => absurd hz List.not_mem_nil) (by unfold zexs; simp) ⟨by decide, by decide⟩ (by decide) clk_19 cst_19 (fun aq => ?_)
      refine zx_astoreNW dL_yearAfter_12 rfl (Nat.le_of_ble_eq_true rfl) (Nat.le_of_ble_eq_true rfl) rfl ?_
      refine zx_iconst dL_yearAfter_13 ?_
      refine zx_iret rfl rfl dL_yearAfter_14 ?_
      rw [hQ]
      exact Or.inr ⟨_, 0, hq, rfl, rfl⟩
set_option maxRecDepth 20000 in
set_option maxHeartbeats 2000000 in
theorem wL_addDeviceClue {l : Launch} {w : zW} (hfl : l.stackTraces = false) {σ : zS} (hz : zOK σ) {h' n' : Nat} (hh : h' + 1 ≤ 10) (hn : n' ≤ 1) {Q' : zQ} {x0 x1 x2 : Int} (hx0 : zr x0) (hx1 : zr x1) (hx2 : zr x2) (hsp : Sp l w mX9_addDeviceClue h' n' [zf 9 0, zi x0, zi x1, zi x2] σ Q') (hv : ∀ o τ, Q' o τ → (∃ v : Int, o = .inl (some (zi v))) ∨ o = .inr "java/lang/IllegalArgumentException" ∨ o = .inr "java/lang/IllegalStateException") : SpH l w mL_addDeviceClue 10 1 [zf 9 0, zi x0, zi x1, zi x2, zf 35 272] σ (LQ Q' ["java/lang/IllegalArgumentException", "java/lang/IllegalStateException"]) := by
  obtain ⟨Q, hQ⟩ : ∃ Q : zQ, Q = (LQ Q' ["java/lang/IllegalArgumentException", "java/lang/IllegalStateException"]) := ⟨_, rfl⟩
  rw [← hQ]
  refine zx_enterH hfl (by decide) 1 rfl ?_
  show zX l w mL_addDeviceClue (zMQ w 10 1 Q) 0 [zf 9 0, zi x0, zi x1, zi x2, zf 35 272, zu] [] 0 σ
  refine zx_aload dL_addDeviceClue_0 rfl ?_
  refine zx_iconst dL_addDeviceClue_2 ?_
  refine zx_aloadN dL_addDeviceClue_3 rfl rfl ?_
  refine zx_iloadN dL_addDeviceClue_4 rfl rfl ?_
  refine zx_iloadN dL_addDeviceClue_5 rfl rfl ?_
  refine zx_iloadN dL_addDeviceClue_6 rfl rfl ?_
  refine zy_cvq [zi x0, zi x1, zi x2] hsp dL_addDeviceClue_7 (by decide) rfl cw_RL_94 okX9_addDeviceClue rfl (Nat.le_of_ble_eq_true rfl) ⟨hh, by show 8 + (4 + 11) + 34 * h' ≤ 340; omega, by show 0 + (0 + n') ≤ 1; omega, by show 0 + 6 * (0 + n') ≤ 6 * 1; omega⟩ (fun r τ hq => ?_) (fun E τ hq => ?_)
  · rcases hv _ _ hq with ⟨v, e⟩ | e | e
    · obtain rfl := Sum.inl.inj e
      rw [show ∀ (x : zV) (s : List zV), (some x).toList ++ s = x :: s from fun _ _ => rfl]
      refine zy_nrm ?_
      have hzv := zt_r v
      refine zx_i2l (by first | exact hz _ _ | assumption | exact zr_b _ | exact zcmp_r _ _ | (unfold zr at *; omega)) dL_addDeviceClue_10 ?_
      refine zx_last dL_addDeviceClue_11 ?_
      refine zx_goto (tgt := 23) dL_addDeviceClue_12 (by decide) ?_
      refine zx_iconst dL_addDeviceClue_23 ?_
      refine zx_iret rfl rfl dL_addDeviceClue_24 ?_
      rw [hQ]
      exact Or.inl ⟨v, τ, hq, rfl, rfl⟩
    · cases e
    · cases e
  · rcases hv _ _ hq with ⟨v, e⟩ | e | e
    · cases e
    · obtain rfl := Sum.inr.inj e
      refine zxt_catch (name := "java/lang/IllegalArgumentException") (pre := []) (x := (0, 12, 15, 19)) (suf := [(0, 12, 19, 13)]) rfl (fun z hz => absurd hz List.not_mem_nil) (by unfold zexs; simp) ⟨by decide, by decide⟩ (by decide) clk_19 cst_19 (fun aq => ?_)
      refine zx_astoreW dL_addDeviceClue_15 (Nat.le_of_ble_eq_true rfl) (Nat.le_of_ble_eq_true rfl) rfl ?_
      refine zx_iconst dL_addDeviceClue_17 ?_
      refine zx_iret rfl rfl dL_addDeviceClue_18 ?_
      rw [hQ]
      exact Or.inr ⟨_, 0, hq, rfl, rfl⟩
    · obtain rfl := Sum.inr.inj e
      refine zxt_catch (name := "java/lang/IllegalStateException") (pre := [(0, 12, 15, 19)]) (x := (0, 12, 19, 13)) (suf := []) rfl (fun z hz => by
        simp only [List.mem_cons, List.not_mem_nil, or_false] at hz
        rcases hz with rfl
        · exact ⟨by decide, "java/lang/IllegalArgumentException", (by unfold zexs; simp), clk_19, by decide⟩) (by unfold zexs; simp) ⟨by decide, by decide⟩ (by decide) clk_13 cst_13 (fun aq => ?_)
      refine zx_astoreW dL_addDeviceClue_19 (Nat.le_of_ble_eq_true rfl) (Nat.le_of_ble_eq_true rfl) rfl ?_
      refine zx_iconst dL_addDeviceClue_21 ?_
      refine zx_iret rfl rfl dL_addDeviceClue_22 ?_
      rw [hQ]
      exact Or.inr ⟨_, 1, hq, rfl, rfl⟩
set_option maxRecDepth 20000 in
set_option maxHeartbeats 2000000 in
theorem wL_addTypefaceClue {l : Launch} {w : zW} (hfl : l.stackTraces = false) {σ : zS} (hz : zOK σ) {h' n' : Nat} (hh : h' + 1 ≤ 10) (hn : n' ≤ 1) {Q' : zQ} {x0 x1 x2 : Int} (hx0 : zr x0) (hx1 : zr x1) (hx2 : zr x2) (hsp : Sp l w mX9_addTypefaceClue h' n' [zf 9 0, zi x0, zi x1, zi x2] σ Q') (hv : ∀ o τ, Q' o τ → (∃ v : Int, o = .inl (some (zi v))) ∨ o = .inr "java/lang/IllegalArgumentException" ∨ o = .inr "java/lang/IllegalStateException") : SpH l w mL_addTypefaceClue 10 1 [zf 9 0, zi x0, zi x1, zi x2, zf 35 272] σ (LQ Q' ["java/lang/IllegalArgumentException", "java/lang/IllegalStateException"]) := by
  obtain ⟨Q, hQ⟩ : ∃ Q : zQ, Q = (LQ Q' ["java/lang/IllegalArgumentException", "java/lang/IllegalStateException"]) := ⟨_, rfl⟩
  rw [← hQ]
  refine zx_enterH hfl (by decide) 1 rfl ?_
  show zX l w mL_addTypefaceClue (zMQ w 10 1 Q) 0 [zf 9 0, zi x0, zi x1, zi x2, zf 35 272, zu] [] 0 σ
  refine zx_aload dL_addTypefaceClue_0 rfl ?_
  refine zx_iconst dL_addTypefaceClue_2 ?_
  refine zx_aloadN dL_addTypefaceClue_3 rfl rfl ?_
  refine zx_iloadN dL_addTypefaceClue_4 rfl rfl ?_
  refine zx_iloadN dL_addTypefaceClue_5 rfl rfl ?_
  refine zx_iloadN dL_addTypefaceClue_6 rfl rfl ?_
  refine zy_cvq [zi x0, zi x1, zi x2] hsp dL_addTypefaceClue_7 (by decide) rfl cw_RL_98 okX9_addTypefaceClue rfl (Nat.le_of_ble_eq_true rfl) ⟨hh, by show 8 + (4 + 11) + 34 * h' ≤ 340; omega, by show 0 + (0 + n') ≤ 1; omega, by show 0 + 6 * (0 + n') ≤ 6 * 1; omega⟩ (fun r τ hq => ?_) (fun E τ hq => ?_)
  · rcases hv _ _ hq with ⟨v, e⟩ | e | e
    · obtain rfl := Sum.inl.inj e
      rw [show ∀ (x : zV) (s : List zV), (some x).toList ++ s = x :: s from fun _ _ => rfl]
      refine zy_nrm ?_
      have hzv := zt_r v
      refine zx_i2l (by first | exact hz _ _ | assumption | exact zr_b _ | exact zcmp_r _ _ | (unfold zr at *; omega)) dL_addTypefaceClue_10 ?_
      refine zx_last dL_addTypefaceClue_11 ?_
      refine zx_goto (tgt := 23) dL_addTypefaceClue_12 (by decide) ?_
      refine zx_iconst dL_addTypefaceClue_23 ?_
      refine zx_iret rfl rfl dL_addTypefaceClue_24 ?_
      rw [hQ]
      exact Or.inl ⟨v, τ, hq, rfl, rfl⟩
    · cases e
    · cases e
  · rcases hv _ _ hq with ⟨v, e⟩ | e | e
    · cases e
    · obtain rfl := Sum.inr.inj e
      refine zxt_catch (name := "java/lang/IllegalArgumentException") (pre := []) (x := (0, 12, 15, 19)) (suf := [(0, 12, 19, 13)]) rfl (fun z hz => absurd hz List.not_mem_nil) (by unfold zexs; simp) ⟨by decide, by decide⟩ (by decide) clk_19 cst_19 (fun aq => ?_)
      refine zx_astoreW dL_addTypefaceClue_15 (Nat.le_of_ble_eq_true rfl) (Nat.le_of_ble_eq_true rfl) rfl ?_
      refine zx_iconst dL_addTypefaceClue_17 ?_
      refine zx_iret rfl rfl dL_addTypefaceClue_18 ?_
      rw [hQ]
      exact Or.inr ⟨_, 0, hq, rfl, rfl⟩
    · obtain rfl := Sum.inr.inj e
      refine zxt_catch (name := "java/lang/IllegalStateException") (pre := [(0, 12, 15, 19)]) (x := (0, 12, 19, 13)) (suf := []) rfl (fun z hz => by
        simp only [List.mem_cons, List.not_mem_nil, or_false] at hz
        rcases hz with rfl
        · exact ⟨by decide, "java/lang/IllegalArgumentException", (by unfold zexs; simp), clk_19, by decide⟩) (by unfold zexs; simp) ⟨by decide, by decide⟩ (by decide) clk_13 cst_13 (fun aq => ?_)
      refine zx_astoreW dL_addTypefaceClue_19 (Nat.le_of_ble_eq_true rfl) (Nat.le_of_ble_eq_true rfl) rfl ?_
      refine zx_iconst dL_addTypefaceClue_21 ?_
      refine zx_iret rfl rfl dL_addTypefaceClue_22 ?_
      rw [hQ]
      exact Or.inr ⟨_, 1, hq, rfl, rfl⟩
set_option maxRecDepth 20000 in
set_option maxHeartbeats 2000000 in
theorem wL_addWatermarkClue {l : Launch} {w : zW} (hfl : l.stackTraces = false) {σ : zS} (hz : zOK σ) {h' n' : Nat} (hh : h' + 1 ≤ 10) (hn : n' ≤ 1) {Q' : zQ} {x0 x1 x2 : Int} (hx0 : zr x0) (hx1 : zr x1) (hx2 : zr x2) (hsp : Sp l w mX9_addWatermarkClue h' n' [zf 9 0, zi x0, zi x1, zi x2] σ Q') (hv : ∀ o τ, Q' o τ → (∃ v : Int, o = .inl (some (zi v))) ∨ o = .inr "java/lang/IllegalArgumentException" ∨ o = .inr "java/lang/IllegalStateException") : SpH l w mL_addWatermarkClue 10 1 [zf 9 0, zi x0, zi x1, zi x2, zf 35 272] σ (LQ Q' ["java/lang/IllegalArgumentException", "java/lang/IllegalStateException"]) := by
  obtain ⟨Q, hQ⟩ : ∃ Q : zQ, Q = (LQ Q' ["java/lang/IllegalArgumentException", "java/lang/IllegalStateException"]) := ⟨_, rfl⟩
  rw [← hQ]
  refine zx_enterH hfl (by decide) 1 rfl ?_
  show zX l w mL_addWatermarkClue (zMQ w 10 1 Q) 0 [zf 9 0, zi x0, zi x1, zi x2, zf 35 272, zu] [] 0 σ
  refine zx_aload dL_addWatermarkClue_0 rfl ?_
  refine zx_iconst dL_addWatermarkClue_2 ?_
  refine zx_aloadN dL_addWatermarkClue_3 rfl rfl ?_
  refine zx_iloadN dL_addWatermarkClue_4 rfl rfl ?_
  refine zx_iloadN dL_addWatermarkClue_5 rfl rfl ?_
  refine zx_iloadN dL_addWatermarkClue_6 rfl rfl ?_
  refine zy_cvq [zi x0, zi x1, zi x2] hsp dL_addWatermarkClue_7 (by decide) rfl cw_RL_101 okX9_addWatermarkClue rfl (Nat.le_of_ble_eq_true rfl) ⟨hh, by show 8 + (4 + 11) + 34 * h' ≤ 340; omega, by show 0 + (0 + n') ≤ 1; omega, by show 0 + 6 * (0 + n') ≤ 6 * 1; omega⟩ (fun r τ hq => ?_) (fun E τ hq => ?_)
  · rcases hv _ _ hq with ⟨v, e⟩ | e | e
    · obtain rfl := Sum.inl.inj e
      rw [show ∀ (x : zV) (s : List zV), (some x).toList ++ s = x :: s from fun _ _ => rfl]
      refine zy_nrm ?_
      have hzv := zt_r v
      refine zx_i2l (by first | exact hz _ _ | assumption | exact zr_b _ | exact zcmp_r _ _ | (unfold zr at *; omega)) dL_addWatermarkClue_10 ?_
      refine zx_last dL_addWatermarkClue_11 ?_
      refine zx_goto (tgt := 23) dL_addWatermarkClue_12 (by decide) ?_
      refine zx_iconst dL_addWatermarkClue_23 ?_
      refine zx_iret rfl rfl dL_addWatermarkClue_24 ?_
      rw [hQ]
      exact Or.inl ⟨v, τ, hq, rfl, rfl⟩
    · cases e
    · cases e
  · rcases hv _ _ hq with ⟨v, e⟩ | e | e
    · cases e
    · obtain rfl := Sum.inr.inj e
      refine zxt_catch (name := "java/lang/IllegalArgumentException") (pre := []) (x := (0, 12, 15, 19)) (suf := [(0, 12, 19, 13)]) rfl (fun z hz => absurd hz List.not_mem_nil) (by unfold zexs; simp) ⟨by decide, by decide⟩ (by decide) clk_19 cst_19 (fun aq => ?_)
      refine zx_astoreW dL_addWatermarkClue_15 (Nat.le_of_ble_eq_true rfl) (Nat.le_of_ble_eq_true rfl) rfl ?_
      refine zx_iconst dL_addWatermarkClue_17 ?_
      refine zx_iret rfl rfl dL_addWatermarkClue_18 ?_
      rw [hQ]
      exact Or.inr ⟨_, 0, hq, rfl, rfl⟩
    · obtain rfl := Sum.inr.inj e
      refine zxt_catch (name := "java/lang/IllegalStateException") (pre := [(0, 12, 15, 19)]) (x := (0, 12, 19, 13)) (suf := []) rfl (fun z hz => by
        simp only [List.mem_cons, List.not_mem_nil, or_false] at hz
        rcases hz with rfl
        · exact ⟨by decide, "java/lang/IllegalArgumentException", (by unfold zexs; simp), clk_19, by decide⟩) (by unfold zexs; simp) ⟨by decide, by decide⟩ (by decide) clk_13 cst_13 (fun aq => ?_)
      refine zx_astoreW dL_addWatermarkClue_19 (Nat.le_of_ble_eq_true rfl) (Nat.le_of_ble_eq_true rfl) rfl ?_
      refine zx_iconst dL_addWatermarkClue_21 ?_
      refine zx_iret rfl rfl dL_addWatermarkClue_22 ?_
      rw [hQ]
      exact Or.inr ⟨_, 1, hq, rfl, rfl⟩
set_option maxRecDepth 20000 in
set_option maxHeartbeats 2000000 in
theorem wL_addCityClue {l : Launch} {w : zW} (hfl : l.stackTraces = false) {σ : zS} (hz : zOK σ) {h' n' : Nat} (hh : h' + 1 ≤ 10) (hn : n' ≤ 1) {Q' : zQ} {x0 x1 x2 : Int} (hx0 : zr x0) (hx1 : zr x1) (hx2 : zr x2) (hsp : Sp l w mX9_addCityClue h' n' [zf 9 0, zi x0, zi x1, zi x2] σ Q') (hv : ∀ o τ, Q' o τ → (∃ v : Int, o = .inl (some (zi v))) ∨ o = .inr "java/lang/IllegalArgumentException" ∨ o = .inr "java/lang/IllegalStateException") : SpH l w mL_addCityClue 10 1 [zf 9 0, zi x0, zi x1, zi x2, zf 35 272] σ (LQ Q' ["java/lang/IllegalArgumentException", "java/lang/IllegalStateException"]) := by
  obtain ⟨Q, hQ⟩ : ∃ Q : zQ, Q = (LQ Q' ["java/lang/IllegalArgumentException", "java/lang/IllegalStateException"]) := ⟨_, rfl⟩
  rw [← hQ]
  refine zx_enterH hfl (by decide) 1 rfl ?_
  show zX l w mL_addCityClue (zMQ w 10 1 Q) 0 [zf 9 0, zi x0, zi x1, zi x2, zf 35 272, zu] [] 0 σ
  refine zx_aload dL_addCityClue_0 rfl ?_
  refine zx_iconst dL_addCityClue_2 ?_
  refine zx_aloadN dL_addCityClue_3 rfl rfl ?_
  refine zx_iloadN dL_addCityClue_4 rfl rfl ?_
  refine zx_iloadN dL_addCityClue_5 rfl rfl ?_
  refine zx_iloadN dL_addCityClue_6 rfl rfl ?_
  refine zy_cvq [zi x0, zi x1, zi x2] hsp dL_addCityClue_7 (by decide) rfl cw_RL_104 okX9_addCityClue rfl (Nat.le_of_ble_eq_true rfl) ⟨hh, by show 8 + (4 + 11) + 34 * h' ≤ 340; omega, by show 0 + (0 + n') ≤ 1; omega, by show 0 + 6 * (0 + n') ≤ 6 * 1; omega⟩ (fun r τ hq => ?_) (fun E τ hq => ?_)
  · rcases hv _ _ hq with ⟨v, e⟩ | e | e
    · obtain rfl := Sum.inl.inj e
      rw [show ∀ (x : zV) (s : List zV), (some x).toList ++ s = x :: s from fun _ _ => rfl]
      refine zy_nrm ?_
      have hzv := zt_r v
      refine zx_i2l (by first | exact hz _ _ | assumption | exact zr_b _ | exact zcmp_r _ _ | (unfold zr at *; omega)) dL_addCityClue_10 ?_
      refine zx_last dL_addCityClue_11 ?_
      refine zx_goto (tgt := 23) dL_addCityClue_12 (by decide) ?_
      refine zx_iconst dL_addCityClue_23 ?_
      refine zx_iret rfl rfl dL_addCityClue_24 ?_
      rw [hQ]
      exact Or.inl ⟨v, τ, hq, rfl, rfl⟩
    · cases e
    · cases e
  · rcases hv _ _ hq with ⟨v, e⟩ | e | e
    · cases e
    · obtain rfl := Sum.inr.inj e
      refine zxt_catch (name := "java/lang/IllegalArgumentException") (pre := []) (x := (0, 12, 15, 19)) (suf := [(0, 12, 19, 13)]) rfl (fun z hz => absurd hz List.not_mem_nil) (by unfold zexs; simp) ⟨by decide, by decide⟩ (by decide) clk_19 cst_19 (fun aq => ?_)
      refine zx_astoreW dL_addCityClue_15 (Nat.le_of_ble_eq_true rfl) (Nat.le_of_ble_eq_true rfl) rfl ?_
      refine zx_iconst dL_addCityClue_17 ?_
      refine zx_iret rfl rfl dL_addCityClue_18 ?_
      rw [hQ]
      exact Or.inr ⟨_, 0, hq, rfl, rfl⟩
    · obtain rfl := Sum.inr.inj e
      refine zxt_catch (name := "java/lang/IllegalStateException") (pre := [(0, 12, 15, 19)]) (x := (0, 12, 19, 13)) (suf := []) rfl (fun z hz => by
        simp only [List.mem_cons, List.not_mem_nil, or_false] at hz
        rcases hz with rfl
        · exact ⟨by decide, "java/lang/IllegalArgumentException", (by unfold zexs; simp), clk_19, by decide⟩) (by unfold zexs; simp) ⟨by decide, by decide⟩ (by decide) clk_13 cst_13 (fun aq => ?_)
      refine zx_astoreW dL_addCityClue_19 (Nat.le_of_ble_eq_true rfl) (Nat.le_of_ble_eq_true rfl) rfl ?_
      refine zx_iconst dL_addCityClue_21 ?_
      refine zx_iret rfl rfl dL_addCityClue_22 ?_
      rw [hQ]
      exact Or.inr ⟨_, 1, hq, rfl, rfl⟩
set_option maxRecDepth 20000 in
set_option maxHeartbeats 2000000 in
theorem wL_addDateClue {l : Launch} {w : zW} (hfl : l.stackTraces = false) {σ : zS} (hz : zOK σ) {h' n' : Nat} (hh : h' + 1 ≤ 10) (hn : n' ≤ 1) {Q' : zQ} {x0 x1 x2 : Int} (hx0 : zr x0) (hx1 : zr x1) (hx2 : zr x2) (hsp : Sp l w mX9_addDateClue h' n' [zf 9 0, zi x0, zi x1, zi x2] σ Q') (hv : ∀ o τ, Q' o τ → (∃ v : Int, o = .inl (some (zi v))) ∨ o = .inr "java/lang/IllegalArgumentException" ∨ o = .inr "java/lang/IllegalStateException") : SpH l w mL_addDateClue 10 1 [zf 9 0, zi x0, zi x1, zi x2, zf 35 272] σ (LQ Q' ["java/lang/IllegalArgumentException", "java/lang/IllegalStateException"]) := by
  obtain ⟨Q, hQ⟩ : ∃ Q : zQ, Q = (LQ Q' ["java/lang/IllegalArgumentException", "java/lang/IllegalStateException"]) := ⟨_, rfl⟩
  rw [← hQ]
  refine zx_enterH hfl (by decide) 1 rfl ?_
  show zX l w mL_addDateClue (zMQ w 10 1 Q) 0 [zf 9 0, zi x0, zi x1, zi x2, zf 35 272, zu] [] 0 σ
  refine zx_aload dL_addDateClue_0 rfl ?_
  refine zx_iconst dL_addDateClue_2 ?_
  refine zx_aloadN dL_addDateClue_3 rfl rfl ?_
  refine zx_iloadN dL_addDateClue_4 rfl rfl ?_
  refine zx_iloadN dL_addDateClue_5 rfl rfl ?_
  refine zx_iloadN dL_addDateClue_6 rfl rfl ?_
  refine zy_cvq [zi x0, zi x1, zi x2] hsp dL_addDateClue_7 (by decide) rfl cw_RL_107 okX9_addDateClue rfl (Nat.le_of_ble_eq_true rfl) ⟨hh, by show 8 + (4 + 11) + 34 * h' ≤ 340; omega, by show 0 + (0 + n') ≤ 1; omega, by show 0 + 6 * (0 + n') ≤ 6 * 1; omega⟩ (fun r τ hq => ?_) (fun E τ hq => ?_)
  · rcases hv _ _ hq with ⟨v, e⟩ | e | e
    · obtain rfl := Sum.inl.inj e
      rw [show ∀ (x : zV) (s : List zV), (some x).toList ++ s = x :: s from fun _ _ => rfl]
      refine zy_nrm ?_
      have hzv := zt_r v
      refine zx_i2l (by first | exact hz _ _ | assumption | exact zr_b _ | exact zcmp_r _ _ | (unfold zr at *; omega)) dL_addDateClue_10 ?_
      refine zx_last dL_addDateClue_11 ?_
      refine zx_goto (tgt := 23) dL_addDateClue_12 (by decide) ?_
      refine zx_iconst dL_addDateClue_23 ?_
      refine zx_iret rfl rfl dL_addDateClue_24 ?_
      rw [hQ]
      exact Or.inl ⟨v, τ, hq, rfl, rfl⟩
    · cases e
    · cases e
  · rcases hv _ _ hq with ⟨v, e⟩ | e | e
    · cases e
    · obtain rfl := Sum.inr.inj e
      refine zxt_catch (name := "java/lang/IllegalArgumentException") (pre := []) (x := (0, 12, 15, 19)) (suf := [(0, 12, 19, 13)]) rfl (fun z hz => absurd hz List.not_mem_nil) (by unfold zexs; simp) ⟨by decide, by decide⟩ (by decide) clk_19 cst_19 (fun aq => ?_)
      refine zx_astoreW dL_addDateClue_15 (Nat.le_of_ble_eq_true rfl) (Nat.le_of_ble_eq_true rfl) rfl ?_
      refine zx_iconst dL_addDateClue_17 ?_
      refine zx_iret rfl rfl dL_addDateClue_18 ?_
      rw [hQ]
      exact Or.inr ⟨_, 0, hq, rfl, rfl⟩
    · obtain rfl := Sum.inr.inj e
      refine zxt_catch (name := "java/lang/IllegalStateException") (pre := [(0, 12, 15, 19)]) (x := (0, 12, 19, 13)) (suf := []) rfl (fun z hz => by
        simp only [List.mem_cons, List.not_mem_nil, or_false] at hz
        rcases hz with rfl
        · exact ⟨by decide, "java/lang/IllegalArgumentException", (by unfold zexs; simp), clk_19, by decide⟩) (by unfold zexs; simp) ⟨by decide, by decide⟩ (by decide) clk_13 cst_13 (fun aq => ?_)
      refine zx_astoreW dL_addDateClue_19 (Nat.le_of_ble_eq_true rfl) (Nat.le_of_ble_eq_true rfl) rfl ?_
      refine zx_iconst dL_addDateClue_21 ?_
      refine zx_iret rfl rfl dL_addDateClue_22 ?_
      rw [hQ]
      exact Or.inr ⟨_, 1, hq, rfl, rfl⟩
set_option maxRecDepth 20000 in
set_option maxHeartbeats 2000000 in
theorem wL_read {l : Launch} {w : zW} (hfl : l.stackTraces = false) {σ : zS} (hz : zOK σ) {h' n' : Nat} (hh : h' + 1 ≤ 10) (hn : n' ≤ 1) {Q' : zQ} {x0 : Int} (hx0 : zr x0) (hsp : Sp l w mX9_read h' n' [zf 9 0, zi x0] σ Q') (hv : ∀ o τ, Q' o τ → (∃ v : Int, o = .inl (some (zi v))) ∨ o = .inr "java/lang/IllegalArgumentException") : SpH l w mL_read 10 1 [zf 9 0, zi x0, zf 35 272] σ (LQ Q' ["java/lang/IllegalArgumentException"]) := by
  obtain ⟨Q, hQ⟩ : ∃ Q : zQ, Q = (LQ Q' ["java/lang/IllegalArgumentException"]) := ⟨_, rfl⟩
  rw [← hQ]
  refine zx_enterH hfl (by decide) 1 rfl ?_
  show zX l w mL_read (zMQ w 10 1 Q) 0 [zf 9 0, zi x0, zf 35 272, zu] [] 0 σ
  refine zx_aloadN dL_read_0 rfl rfl ?_
  refine zx_iconst dL_read_1 ?_
  refine zx_aloadN dL_read_2 rfl rfl ?_
  refine zx_iloadN dL_read_3 rfl rfl ?_
  refine zy_cvq [zi x0] hsp dL_read_4 (by decide) rfl cw_RL_110 okX9_read rfl (Nat.le_of_ble_eq_true rfl) ⟨hh, by show 8 + (3 + 11) + 34 * h' ≤ 340; omega, by show 0 + (0 + n') ≤ 1; omega, by show 0 + 6 * (0 + n') ≤ 6 * 1; omega⟩ (fun r τ hq => ?_) (fun E τ hq => ?_)
  · rcases hv _ _ hq with ⟨v, e⟩ | e
    · obtain rfl := Sum.inl.inj e
      rw [show ∀ (x : zV) (s : List zV), (some x).toList ++ s = x :: s from fun _ _ => rfl]
      refine zy_nrm ?_
      have hzv := zt_r v
      refine zx_i2l (by first | exact hz _ _ | assumption | exact zr_b _ | exact zcmp_r _ _ | (unfold zr at *; omega)) dL_read_7 ?_
      refine zx_last dL_read_8 ?_
      refine zx_goto (tgt := 15) dL_read_9 (by decide) ?_
      refine zx_iconst dL_read_15 ?_
      refine zx_iret rfl rfl dL_read_16 ?_
      rw [hQ]
      exact Or.inl ⟨v, τ, hq, rfl, rfl⟩
    · cases e
  · rcases hv _ _ hq with ⟨v, e⟩ | e
    · cases e
    · obtain rfl := Sum.inr.inj e
      refine zxt_catch (name := "java/lang/IllegalArgumentException") (pre := []) (x := (0, 9, 12, 19)) (suf := []) rfl (fun z hz => absurd hz List.not_mem_nil) (by unfold zexs; simp) ⟨by decide, by decide⟩ (by decide) clk_19 cst_19 (fun aq => ?_)
      refine zx_astoreNW dL_read_12 rfl (Nat.le_of_ble_eq_true rfl) (Nat.le_of_ble_eq_true rfl) rfl ?_
      refine zx_iconst dL_read_13 ?_
      refine zx_iret rfl rfl dL_read_14 ?_
      rw [hQ]
      exact Or.inr ⟨_, 0, hq, rfl, rfl⟩
set_option maxRecDepth 20000 in
set_option maxHeartbeats 2000000 in
theorem wL_setAside {l : Launch} {w : zW} (hfl : l.stackTraces = false) {σ : zS} (hz : zOK σ) {h' n' : Nat} (hh : h' + 1 ≤ 10) (hn : n' ≤ 1) {Q' : zQ} {x0 : Int} (hx0 : zr x0) (hsp : Sp l w mX9_setAside h' n' [zf 9 0, zi x0] σ Q') (hv : ∀ o τ, Q' o τ → (∃ v : Int, o = .inl (some (zi v))) ∨ o = .inr "java/lang/IndexOutOfBoundsException" ∨ o = .inr "java/lang/IllegalStateException") : SpH l w mL_setAside 10 1 [zf 9 0, zi x0, zf 35 272] σ (LQ Q' ["java/lang/IndexOutOfBoundsException", "java/lang/IllegalStateException"]) := by
  obtain ⟨Q, hQ⟩ : ∃ Q : zQ, Q = (LQ Q' ["java/lang/IndexOutOfBoundsException", "java/lang/IllegalStateException"]) := ⟨_, rfl⟩
  rw [← hQ]
  refine zx_enterH hfl (by decide) 1 rfl ?_
  show zX l w mL_setAside (zMQ w 10 1 Q) 0 [zf 9 0, zi x0, zf 35 272, zu] [] 0 σ
  refine zx_aloadN dL_setAside_0 rfl rfl ?_
  refine zx_iconst dL_setAside_1 ?_
  refine zx_aloadN dL_setAside_2 rfl rfl ?_
  refine zx_iloadN dL_setAside_3 rfl rfl ?_
  refine zy_cvq [zi x0] hsp dL_setAside_4 (by decide) rfl cw_RL_113 okX9_setAside rfl (Nat.le_of_ble_eq_true rfl) ⟨hh, by show 8 + (2 + 11) + 34 * h' ≤ 340; omega, by show 0 + (0 + n') ≤ 1; omega, by show 0 + 6 * (0 + n') ≤ 6 * 1; omega⟩ (fun r τ hq => ?_) (fun E τ hq => ?_)
  · rcases hv _ _ hq with ⟨v, e⟩ | e | e
    · obtain rfl := Sum.inl.inj e
      rw [show ∀ (x : zV) (s : List zV), (some x).toList ++ s = x :: s from fun _ _ => rfl]
      refine zy_nrm ?_
      have hzv := zt_r v
      refine zx_i2l (by first | exact hz _ _ | assumption | exact zr_b _ | exact zcmp_r _ _ | (unfold zr at *; omega)) dL_setAside_7 ?_
      refine zx_last dL_setAside_8 ?_
      refine zx_goto (tgt := 18) dL_setAside_9 (by decide) ?_
      refine zx_iconst dL_setAside_18 ?_
      refine zx_iret rfl rfl dL_setAside_19 ?_
      rw [hQ]
      exact Or.inl ⟨v, τ, hq, rfl, rfl⟩
    · cases e
    · cases e
  · rcases hv _ _ hq with ⟨v, e⟩ | e | e
    · cases e
    · obtain rfl := Sum.inr.inj e
      refine zxt_catch (name := "java/lang/IndexOutOfBoundsException") (pre := []) (x := (0, 9, 12, 31)) (suf := [(0, 9, 15, 13)]) rfl (fun z hz => absurd hz List.not_mem_nil) (by unfold zexs; simp) ⟨by decide, by decide⟩ (by decide) clk_31 cst_31 (fun aq => ?_)
      refine zx_astoreNW dL_setAside_12 rfl (Nat.le_of_ble_eq_true rfl) (Nat.le_of_ble_eq_true rfl) rfl ?_
      refine zx_iconst dL_setAside_13 ?_
      refine zx_iret rfl rfl dL_setAside_14 ?_
      rw [hQ]
      exact Or.inr ⟨_, 0, hq, rfl, rfl⟩
    · obtain rfl := Sum.inr.inj e
      refine zxt_catch (name := "java/lang/IllegalStateException") (pre := [(0, 9, 12, 31)]) (x := (0, 9, 15, 13)) (suf := []) rfl (fun z hz => by
        simp only [List.mem_cons, List.not_mem_nil, or_false] at hz
        rcases hz with rfl
        · exact ⟨by decide, "java/lang/IndexOutOfBoundsException", (by unfold zexs; simp), clk_31, by decide⟩) (by unfold zexs; simp) ⟨by decide, by decide⟩ (by decide) clk_13 cst_13 (fun aq => ?_)
      refine zx_astoreNW dL_setAside_15 rfl (Nat.le_of_ble_eq_true rfl) (Nat.le_of_ble_eq_true rfl) rfl ?_
      refine zx_iconst dL_setAside_16 ?_
      refine zx_iret rfl rfl dL_setAside_17 ?_
      rw [hQ]
      exact Or.inr ⟨_, 1, hq, rfl, rfl⟩
set_option maxRecDepth 20000 in
set_option maxHeartbeats 2000000 in
theorem wL_takeBack {l : Launch} {w : zW} (hfl : l.stackTraces = false) {σ : zS} (hz : zOK σ) {h' n' : Nat} (hh : h' + 1 ≤ 10) (hn : n' ≤ 1) {Q' : zQ} {x0 : Int} (hx0 : zr x0) (hsp : Sp l w mX9_takeBack h' n' [zf 9 0, zi x0] σ Q') (hv : ∀ o τ, Q' o τ → (∃ v : Int, o = .inl (some (zi v))) ∨ o = .inr "java/lang/IndexOutOfBoundsException" ∨ o = .inr "java/lang/IllegalStateException") : SpH l w mL_takeBack 10 1 [zf 9 0, zi x0, zf 35 272] σ (LQ Q' ["java/lang/IndexOutOfBoundsException", "java/lang/IllegalStateException"]) := by
  obtain ⟨Q, hQ⟩ : ∃ Q : zQ, Q = (LQ Q' ["java/lang/IndexOutOfBoundsException", "java/lang/IllegalStateException"]) := ⟨_, rfl⟩
  rw [← hQ]
  refine zx_enterH hfl (by decide) 1 rfl ?_
  show zX l w mL_takeBack (zMQ w 10 1 Q) 0 [zf 9 0, zi x0, zf 35 272, zu] [] 0 σ
  refine zx_aloadN dL_takeBack_0 rfl rfl ?_
  refine zx_iconst dL_takeBack_1 ?_
  refine zx_aloadN dL_takeBack_2 rfl rfl ?_
  refine zx_iloadN dL_takeBack_3 rfl rfl ?_
  refine zy_cvq [zi x0] hsp dL_takeBack_4 (by decide) rfl cw_RL_116 okX9_takeBack rfl (Nat.le_of_ble_eq_true rfl) ⟨hh, by show 8 + (2 + 11) + 34 * h' ≤ 340; omega, by show 0 + (0 + n') ≤ 1; omega, by show 0 + 6 * (0 + n') ≤ 6 * 1; omega⟩ (fun r τ hq => ?_) (fun E τ hq => ?_)
  · rcases hv _ _ hq with ⟨v, e⟩ | e | e
    · obtain rfl := Sum.inl.inj e
      rw [show ∀ (x : zV) (s : List zV), (some x).toList ++ s = x :: s from fun _ _ => rfl]
      refine zy_nrm ?_
      have hzv := zt_r v
      refine zx_i2l (by first | exact hz _ _ | assumption | exact zr_b _ | exact zcmp_r _ _ | (unfold zr at *; omega)) dL_takeBack_7 ?_
      refine zx_last dL_takeBack_8 ?_
      refine zx_goto (tgt := 18) dL_takeBack_9 (by decide) ?_
      refine zx_iconst dL_takeBack_18 ?_
      refine zx_iret rfl rfl dL_takeBack_19 ?_
      rw [hQ]
      exact Or.inl ⟨v, τ, hq, rfl, rfl⟩
    · cases e
    · cases e
  · rcases hv _ _ hq with ⟨v, e⟩ | e | e
    · cases e
    · obtain rfl := Sum.inr.inj e
      refine zxt_catch (name := "java/lang/IndexOutOfBoundsException") (pre := []) (x := (0, 9, 12, 31)) (suf := [(0, 9, 15, 13)]) rfl (fun z hz => absurd hz List.not_mem_nil) (by unfold zexs; simp) ⟨by decide, by decide⟩ (by decide) clk_31 cst_31 (fun aq => ?_)
      refine zx_astoreNW dL_takeBack_12 rfl (Nat.le_of_ble_eq_true rfl) (Nat.le_of_ble_eq_true rfl) rfl ?_
      refine zx_iconst dL_takeBack_13 ?_
      refine zx_iret rfl rfl dL_takeBack_14 ?_
      rw [hQ]
      exact Or.inr ⟨_, 0, hq, rfl, rfl⟩
    · obtain rfl := Sum.inr.inj e
      refine zxt_catch (name := "java/lang/IllegalStateException") (pre := [(0, 9, 12, 31)]) (x := (0, 9, 15, 13)) (suf := []) rfl (fun z hz => by
        simp only [List.mem_cons, List.not_mem_nil, or_false] at hz
        rcases hz with rfl
        · exact ⟨by decide, "java/lang/IndexOutOfBoundsException", (by unfold zexs; simp), clk_31, by decide⟩) (by unfold zexs; simp) ⟨by decide, by decide⟩ (by decide) clk_13 cst_13 (fun aq => ?_)
      refine zx_astoreNW dL_takeBack_15 rfl (Nat.le_of_ble_eq_true rfl) (Nat.le_of_ble_eq_true rfl) rfl ?_
      refine zx_iconst dL_takeBack_16 ?_
      refine zx_iret rfl rfl dL_takeBack_17 ?_
      rw [hQ]
      exact Or.inr ⟨_, 1, hq, rfl, rfl⟩
set_option maxRecDepth 20000 in
set_option maxHeartbeats 2000000 in
theorem wL_setWeight {l : Launch} {w : zW} (hfl : l.stackTraces = false) {σ : zS} (hz : zOK σ) {h' n' : Nat} (hh : h' + 1 ≤ 10) (hn : n' ≤ 1) {Q' : zQ} {x0 x1 : Int} (hx0 : zr x0) (hx1 : zr x1) (hsp : Sp l w mX9_setWeight h' n' [zf 9 0, zi x0, zi x1] σ Q') (hv : ∀ o τ, Q' o τ → (∃ v : Int, o = .inl (some (zi v))) ∨ o = .inr "java/lang/IndexOutOfBoundsException" ∨ o = .inr "java/lang/IllegalArgumentException") : SpH l w mL_setWeight 10 1 [zf 9 0, zi x0, zi x1, zf 35 272] σ (LQ Q' ["java/lang/IndexOutOfBoundsException", "java/lang/IllegalArgumentException"]) := by
  obtain ⟨Q, hQ⟩ : ∃ Q : zQ, Q = (LQ Q' ["java/lang/IndexOutOfBoundsException", "java/lang/IllegalArgumentException"]) := ⟨_, rfl⟩
  rw [← hQ]
  refine zx_enterH hfl (by decide) 1 rfl ?_
  show zX l w mL_setWeight (zMQ w 10 1 Q) 0 [zf 9 0, zi x0, zi x1, zf 35 272, zu] [] 0 σ
  refine zx_aloadN dL_setWeight_0 rfl rfl ?_
  refine zx_iconst dL_setWeight_1 ?_
  refine zx_aloadN dL_setWeight_2 rfl rfl ?_
  refine zx_iloadN dL_setWeight_3 rfl rfl ?_
  refine zx_iloadN dL_setWeight_4 rfl rfl ?_
  refine zy_cvq [zi x0, zi x1] hsp dL_setWeight_5 (by decide) rfl cw_RL_119 okX9_setWeight rfl (Nat.le_of_ble_eq_true rfl) ⟨hh, by show 8 + (4 + 11) + 34 * h' ≤ 340; omega, by show 0 + (0 + n') ≤ 1; omega, by show 0 + 6 * (0 + n') ≤ 6 * 1; omega⟩ (fun r τ hq => ?_) (fun E τ hq => ?_)
  · rcases hv _ _ hq with ⟨v, e⟩ | e | e
    · obtain rfl := Sum.inl.inj e
      rw [show ∀ (x : zV) (s : List zV), (some x).toList ++ s = x :: s from fun _ _ => rfl]
      refine zy_nrm ?_
      have hzv := zt_r v
      refine zx_i2l (by first | exact hz _ _ | assumption | exact zr_b _ | exact zcmp_r _ _ | (unfold zr at *; omega)) dL_setWeight_8 ?_
      refine zx_last dL_setWeight_9 ?_
      refine zx_goto (tgt := 21) dL_setWeight_10 (by decide) ?_
      refine zx_iconst dL_setWeight_21 ?_
      refine zx_iret rfl rfl dL_setWeight_22 ?_
      rw [hQ]
      exact Or.inl ⟨v, τ, hq, rfl, rfl⟩
    · cases e
    · cases e
  · rcases hv _ _ hq with ⟨v, e⟩ | e | e
    · cases e
    · obtain rfl := Sum.inr.inj e
      refine zxt_catch (name := "java/lang/IndexOutOfBoundsException") (pre := []) (x := (0, 10, 13, 31)) (suf := [(0, 10, 17, 19)]) rfl (fun z hz => absurd hz List.not_mem_nil) (by unfold zexs; simp) ⟨by decide, by decide⟩ (by decide) clk_31 cst_31 (fun aq => ?_)
      refine zx_astoreW dL_setWeight_13 (Nat.le_of_ble_eq_true rfl) (Nat.le_of_ble_eq_true rfl) rfl ?_
      refine zx_iconst dL_setWeight_15 ?_
      refine zx_iret rfl rfl dL_setWeight_16 ?_
      rw [hQ]
      exact Or.inr ⟨_, 0, hq, rfl, rfl⟩
    · obtain rfl := Sum.inr.inj e
      refine zxt_catch (name := "java/lang/IllegalArgumentException") (pre := [(0, 10, 13, 31)]) (x := (0, 10, 17, 19)) (suf := []) rfl (fun z hz => by
        simp only [List.mem_cons, List.not_mem_nil, or_false] at hz
        rcases hz with rfl
        · exact ⟨by decide, "java/lang/IndexOutOfBoundsException", (by unfold zexs; simp), clk_31, by decide⟩) (by unfold zexs; simp) ⟨by decide, by decide⟩ (by decide) clk_19 cst_19 (fun aq => ?_)
      refine zx_astoreW dL_setWeight_17 (Nat.le_of_ble_eq_true rfl) (Nat.le_of_ble_eq_true rfl) rfl ?_
      refine zx_iconst dL_setWeight_19 ?_
      refine zx_iret rfl rfl dL_setWeight_20 ?_
      rw [hQ]
      exact Or.inr ⟨_, 1, hq, rfl, rfl⟩
set_option maxRecDepth 20000 in
set_option maxHeartbeats 2000000 in
theorem wL_transferDevice {l : Launch} {w : zW} (hfl : l.stackTraces = false) {σ : zS} (hz : zOK σ) {h' n' : Nat} (hh : h' + 1 ≤ 10) (hn : n' ≤ 1) {Q' : zQ} {x0 x1 x2 : Int} (hx0 : zr x0) (hx1 : zr x1) (hx2 : zr x2) (hsp : Sp l w mX9_transferDevice h' n' [zf 9 0, zi x0, zi x1, zi x2] σ Q') (hv : ∀ o τ, Q' o τ → (∃ v : Int, o = .inl (some (zi v))) ∨ o = .inr "java/lang/IndexOutOfBoundsException" ∨ o = .inr "java/lang/IllegalArgumentException" ∨ o = .inr "java/lang/IllegalStateException") : SpH l w mL_transferDevice 10 1 [zf 9 0, zi x0, zi x1, zi x2, zf 35 272] σ (LQ Q' ["java/lang/IndexOutOfBoundsException", "java/lang/IllegalArgumentException", "java/lang/IllegalStateException"]) := by
  obtain ⟨Q, hQ⟩ : ∃ Q : zQ, Q = (LQ Q' ["java/lang/IndexOutOfBoundsException", "java/lang/IllegalArgumentException", "java/lang/IllegalStateException"]) := ⟨_, rfl⟩
  rw [← hQ]
  refine zx_enterH hfl (by decide) 1 rfl ?_
  show zX l w mL_transferDevice (zMQ w 10 1 Q) 0 [zf 9 0, zi x0, zi x1, zi x2, zf 35 272, zu] [] 0 σ
  refine zx_aload dL_transferDevice_0 rfl ?_
  refine zx_iconst dL_transferDevice_2 ?_
  refine zx_aloadN dL_transferDevice_3 rfl rfl ?_
  refine zx_iloadN dL_transferDevice_4 rfl rfl ?_
  refine zx_iloadN dL_transferDevice_5 rfl rfl ?_
  refine zx_iloadN dL_transferDevice_6 rfl rfl ?_
  refine zy_cvq [zi x0, zi x1, zi x2] hsp dL_transferDevice_7 (by decide) rfl cw_RL_122 okX9_transferDevice rfl (Nat.le_of_ble_eq_true rfl) ⟨hh, by show 8 + (4 + 11) + 34 * h' ≤ 340; omega, by show 0 + (0 + n') ≤ 1; omega, by show 0 + 6 * (0 + n') ≤ 6 * 1; omega⟩ (fun r τ hq => ?_) (fun E τ hq => ?_)
  · rcases hv _ _ hq with ⟨v, e⟩ | e | e | e
    · obtain rfl := Sum.inl.inj e
      rw [show ∀ (x : zV) (s : List zV), (some x).toList ++ s = x :: s from fun _ _ => rfl]
      refine zy_nrm ?_
      have hzv := zt_r v
      refine zx_i2l (by first | exact hz _ _ | assumption | exact zr_b _ | exact zcmp_r _ _ | (unfold zr at *; omega)) dL_transferDevice_10 ?_
      refine zx_last dL_transferDevice_11 ?_
      refine zx_goto (tgt := 27) dL_transferDevice_12 (by decide) ?_
      refine zx_iconst dL_transferDevice_27 ?_
      refine zx_iret rfl rfl dL_transferDevice_28 ?_
      rw [hQ]
      exact Or.inl ⟨v, τ, hq, rfl, rfl⟩
    · cases e
    · cases e
    · cases e
  · rcases hv _ _ hq with ⟨v, e⟩ | e | e | e
    · cases e
    · obtain rfl := Sum.inr.inj e
      refine zxt_catch (name := "java/lang/IndexOutOfBoundsException") (pre := []) (x := (0, 12, 15, 31)) (suf := [(0, 12, 19, 19), (0, 12, 23, 13)]) rfl (fun z hz => absurd hz List.not_mem_nil) (by unfold zexs; simp) ⟨by decide, by decide⟩ (by decide) clk_31 cst_31 (fun aq => ?_)
      refine zx_astoreW dL_transferDevice_15 (Nat.le_of_ble_eq_true rfl) (Nat.le_of_ble_eq_true rfl) rfl ?_
      refine zx_iconst dL_transferDevice_17 ?_
      refine zx_iret rfl rfl dL_transferDevice_18 ?_
      rw [hQ]
      exact Or.inr ⟨_, 0, hq, rfl, rfl⟩
    · obtain rfl := Sum.inr.inj e
      refine zxt_catch (name := "java/lang/IllegalArgumentException") (pre := [(0, 12, 15, 31)]) (x := (0, 12, 19, 19)) (suf := [(0, 12, 23, 13)]) rfl (fun z hz => by
        simp only [List.mem_cons, List.not_mem_nil, or_false] at hz
        rcases hz with rfl
        · exact ⟨by decide, "java/lang/IndexOutOfBoundsException", (by unfold zexs; simp), clk_31, by decide⟩) (by unfold zexs; simp) ⟨by decide, by decide⟩ (by decide) clk_19 cst_19 (fun aq => ?_)
      refine zx_astoreW dL_transferDevice_19 (Nat.le_of_ble_eq_true rfl) (Nat.le_of_ble_eq_true rfl) rfl ?_
      refine zx_iconst dL_transferDevice_21 ?_
      refine zx_iret rfl rfl dL_transferDevice_22 ?_
      rw [hQ]
      exact Or.inr ⟨_, 1, hq, rfl, rfl⟩
    · obtain rfl := Sum.inr.inj e
      refine zxt_catch (name := "java/lang/IllegalStateException") (pre := [(0, 12, 15, 31), (0, 12, 19, 19)]) (x := (0, 12, 23, 13)) (suf := []) rfl (fun z hz => by
        simp only [List.mem_cons, List.not_mem_nil, or_false] at hz
        rcases hz with rfl | rfl
        · exact ⟨by decide, "java/lang/IndexOutOfBoundsException", (by unfold zexs; simp), clk_31, by decide⟩
        · exact ⟨by decide, "java/lang/IllegalArgumentException", (by unfold zexs; simp), clk_19, by decide⟩) (by unfold zexs; simp) ⟨by decide, by decide⟩ (by decide) clk_13 cst_13 (fun aq => ?_)
      refine zx_astoreW dL_transferDevice_23 (Nat.le_of_ble_eq_true rfl) (Nat.le_of_ble_eq_true rfl) rfl ?_
      refine zx_iconst dL_transferDevice_25 ?_
      refine zx_iret rfl rfl dL_transferDevice_26 ?_
      rw [hQ]
      exact Or.inr ⟨_, 2, hq, rfl, rfl⟩
set_option maxRecDepth 20000 in
set_option maxHeartbeats 2000000 in
theorem wL_undo {l : Launch} {w : zW} (hfl : l.stackTraces = false) {σ : zS} (hz : zOK σ) {h' n' : Nat} (hh : h' + 1 ≤ 10) (hn : n' ≤ 1) {Q' : zQ}   (hsp : Sp l w mX9_undo h' n' [zf 9 0] σ Q') (hv : ∀ o τ, Q' o τ → (∃ v : Int, o = .inl (some (zi v))) ∨ o = .inr "java/lang/IllegalStateException") : SpH l w mL_undo 10 1 [zf 9 0, zf 35 272] σ (LQ Q' ["java/lang/IllegalStateException"]) := by
  obtain ⟨Q, hQ⟩ : ∃ Q : zQ, Q = (LQ Q' ["java/lang/IllegalStateException"]) := ⟨_, rfl⟩
  rw [← hQ]
  refine zx_enterH hfl (by decide) 1 rfl ?_
  show zX l w mL_undo (zMQ w 10 1 Q) 0 [zf 9 0, zf 35 272, zu] [] 0 σ
  refine zx_aloadN dL_undo_0 rfl rfl ?_
  refine zx_iconst dL_undo_1 ?_
  refine zx_aloadN dL_undo_2 rfl rfl ?_
  refine zy_cvq [] hsp dL_undo_3 (by decide) rfl cw_RL_125 okX9_undo rfl (Nat.le_of_ble_eq_true rfl) ⟨hh, by show 8 + (1 + 11) + 34 * h' ≤ 340; omega, by show 0 + (0 + n') ≤ 1; omega, by show 0 + 6 * (0 + n') ≤ 6 * 1; omega⟩ (fun r τ hq => ?_) (fun E τ hq => ?_)
  · rcases hv _ _ hq with ⟨v, e⟩ | e
    · obtain rfl := Sum.inl.inj e
      rw [show ∀ (x : zV) (s : List zV), (some x).toList ++ s = x :: s from fun _ _ => rfl]
      refine zy_nrm ?_
      have hzv := zt_r v
      refine zx_i2l (by first | exact hz _ _ | assumption | exact zr_b _ | exact zcmp_r _ _ | (unfold zr at *; omega)) dL_undo_6 ?_
      refine zx_last dL_undo_7 ?_
      refine zx_goto (tgt := 14) dL_undo_8 (by decide) ?_
      refine zx_iconst dL_undo_14 ?_
      refine zx_iret rfl rfl dL_undo_15 ?_
      rw [hQ]
      exact Or.inl ⟨v, τ, hq, rfl, rfl⟩
    · cases e
  · rcases hv _ _ hq with ⟨v, e⟩ | e
    · cases e
    · obtain rfl := Sum.inr.inj e
      refine zxt_catch (name := "java/lang/IllegalStateException") (pre := []) (x := (0, 8, 11, 13)) (suf := []) rfl (fun z hz => absurd hz List.not_mem_nil) (by unfold zexs; simp) ⟨by decide, by decide⟩ (by decide) clk_13 cst_13 (fun aq => ?_)
      refine zx_astoreNW dL_undo_11 rfl (Nat.le_of_ble_eq_true rfl) (Nat.le_of_ble_eq_true rfl) rfl ?_
      refine zx_iconst dL_undo_12 ?_
      refine zx_iret rfl rfl dL_undo_13 ?_
      rw [hQ]
      exact Or.inr ⟨_, 0, hq, rfl, rfl⟩
set_option maxRecDepth 20000 in
set_option maxHeartbeats 2000000 in
theorem wL_restore {l : Launch} {w : zW} (hfl : l.stackTraces = false) {σ : zS} (hz : zOK σ) {h' n' : Nat} (hh : h' + 1 ≤ 10) (hn : n' ≤ 1) {Q' : zQ}   (hsp : Sp l w mX9_restore h' n' [zf 9 0] σ Q') (hv : ∀ o τ, Q' o τ → (∃ v : Int, o = .inl (some (zi v))) ∨ o = .inr "java/lang/IllegalStateException") : SpH l w mL_restore 10 1 [zf 9 0, zf 35 272] σ (LQ Q' ["java/lang/IllegalStateException"]) := by
  obtain ⟨Q, hQ⟩ : ∃ Q : zQ, Q = (LQ Q' ["java/lang/IllegalStateException"]) := ⟨_, rfl⟩
  rw [← hQ]
  refine zx_enterH hfl (by decide) 1 rfl ?_
  show zX l w mL_restore (zMQ w 10 1 Q) 0 [zf 9 0, zf 35 272, zu] [] 0 σ
  refine zx_aloadN dL_restore_0 rfl rfl ?_
  refine zx_iconst dL_restore_1 ?_
  refine zx_aloadN dL_restore_2 rfl rfl ?_
  refine zy_cvq [] hsp dL_restore_3 (by decide) rfl cw_RL_128 okX9_restore rfl (Nat.le_of_ble_eq_true rfl) ⟨hh, by show 8 + (1 + 11) + 34 * h' ≤ 340; omega, by show 0 + (0 + n') ≤ 1; omega, by show 0 + 6 * (0 + n') ≤ 6 * 1; omega⟩ (fun r τ hq => ?_) (fun E τ hq => ?_)
  · rcases hv _ _ hq with ⟨v, e⟩ | e
    · obtain rfl := Sum.inl.inj e
      rw [show ∀ (x : zV) (s : List zV), (some x).toList ++ s = x :: s from fun _ _ => rfl]
      refine zy_nrm ?_
      have hzv := zt_r v
      refine zx_i2l (by first | exact hz _ _ | assumption | exact zr_b _ | exact zcmp_r _ _ | (unfold zr at *; omega)) dL_restore_6 ?_
      refine zx_last dL_restore_7 ?_
      refine zx_goto (tgt := 14) dL_restore_8 (by decide) ?_
      refine zx_iconst dL_restore_14 ?_
      refine zx_iret rfl rfl dL_restore_15 ?_
      rw [hQ]
      exact Or.inl ⟨v, τ, hq, rfl, rfl⟩
    · cases e
  · rcases hv _ _ hq with ⟨v, e⟩ | e
    · cases e
    · obtain rfl := Sum.inr.inj e
      refine zxt_catch (name := "java/lang/IllegalStateException") (pre := []) (x := (0, 8, 11, 13)) (suf := []) rfl (fun z hz => absurd hz List.not_mem_nil) (by unfold zexs; simp) ⟨by decide, by decide⟩ (by decide) clk_13 cst_13 (fun aq => ?_)
      refine zx_astoreNW dL_restore_11 rfl (Nat.le_of_ble_eq_true rfl) (Nat.le_of_ble_eq_true rfl) rfl ?_
      refine zx_iconst dL_restore_12 ?_
      refine zx_iret rfl rfl dL_restore_13 ?_
      rw [hQ]
      exact Or.inr ⟨_, 0, hq, rfl, rfl⟩

