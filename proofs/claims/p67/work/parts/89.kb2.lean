abbrev mJ5_append_3fe6f : zM := (yJ5_append_3fe6f, cJ5_append_3fe6f, 2, (some (.object "java/lang/AbstractStringBuilder")), [])
theorem okJ5_append_3fe6f : zMok mJ5_append_3fe6f 1 := ⟨by decide, by decide, by decide +kernel⟩
theorem dJ5_append_3fe6f_0 : decode cJ5_append_3fe6f 0 = .ok (.aload_n 0, 1) := by decide +kernel
theorem dJ5_append_3fe6f_1 : decode cJ5_append_3fe6f 1 = .ok (.aload_n 0, 1) := by decide +kernel
theorem dJ5_append_3fe6f_2 : decode cJ5_append_3fe6f 2 = .ok (.getfield 79, 3) := by decide +kernel
theorem kf_RJ5_79 : kFl RJ5 79 10 3 := ⟨RJ4, TJ4, 4, rfl, by decide, zmem1 1235 (by decide +kernel) rfl⟩
theorem dJ5_append_3fe6f_5 : decode cJ5_append_3fe6f 5 = .ok (.iconst 1, 1) := by decide +kernel
theorem dJ5_append_3fe6f_6 : decode cJ5_append_3fe6f 6 = .ok (.iadd, 1) := by decide +kernel
theorem dJ5_append_3fe6f_7 : decode cJ5_append_3fe6f 7 = .ok (.invokevirtual 100, 3) := by decide +kernel
theorem ck_RJ5_100 : kCwU RJ5 100 yJ5_ensureCapacityInternal_d00df mJ5_ensureCapacityInternal_d00df := ⟨⟨cJ5_ensureCapacityInternal_d00df, 3, none, List.mem_of_getElem? (i := 1259) (by decide +kernel), by decide +kernel⟩, zall2 [1256, 1450, 1258, 1258] (by decide +kernel) (by decide +kernel), zall [20, 1259] (by decide +kernel) (by decide +kernel), Or.inr ⟨rfl, List.mem_of_getElem? (i := 1257) (by decide +kernel), by decide +kernel⟩⟩
theorem dJ5_append_3fe6f_10 : decode cJ5_append_3fe6f 10 = .ok (.aload_n 0, 1) := by decide +kernel
theorem dJ5_append_3fe6f_11 : decode cJ5_append_3fe6f 11 = .ok (.invokevirtual 83, 3) := by decide +kernel
theorem ck_RJ5_83 : kCwU RJ5 83 yJ5_isLatin1_aae02 mJ5_isLatin1_aae02 := ⟨⟨cJ5_isLatin1_aae02, 1, (some .boolean), List.mem_of_getElem? (i := 1289) (by decide +kernel), by decide +kernel⟩, zall2 [1285, 1287, 1286, 1286] (by decide +kernel) (by decide +kernel), zall [20, 1289] (by decide +kernel) (by decide +kernel), Or.inl ⟨List.mem_of_getElem? (i := 1288) (by decide +kernel), by decide +kernel⟩⟩
theorem dJ5_append_3fe6f_14 : decode cJ5_append_3fe6f 14 = .ok (.ifCond .eq 31, 3) := by decide +kernel
theorem dJ5_append_3fe6f_17 : decode cJ5_append_3fe6f 17 = .ok (.iload_n 1, 1) := by decide +kernel
theorem dJ5_append_3fe6f_18 : decode cJ5_append_3fe6f 18 = .ok (.invokestatic 191, 3) := by decide +kernel
theorem cw_RJ5_191 : zCwS RJ5 191 mJ1_canEncode_fc78d := zall [1347, 1348, 28, 1349] (by decide +kernel) (by decide +kernel)
theorem dJ5_append_3fe6f_21 : decode cJ5_append_3fe6f 21 = .ok (.ifCond .eq 24, 3) := by decide +kernel
theorem dJ5_append_3fe6f_24 : decode cJ5_append_3fe6f 24 = .ok (.aload_n 0, 1) := by decide +kernel
theorem dJ5_append_3fe6f_25 : decode cJ5_append_3fe6f 25 = .ok (.getfield 15, 3) := by decide +kernel
theorem dJ5_append_3fe6f_28 : decode cJ5_append_3fe6f 28 = .ok (.aload_n 0, 1) := by decide +kernel
theorem dJ5_append_3fe6f_29 : decode cJ5_append_3fe6f 29 = .ok (.dup, 1) := by decide +kernel
theorem dJ5_append_3fe6f_30 : decode cJ5_append_3fe6f 30 = .ok (.getfield 79, 3) := by decide +kernel
theorem dJ5_append_3fe6f_33 : decode cJ5_append_3fe6f 33 = .ok (.dup_x1, 1) := by decide +kernel
theorem dJ5_append_3fe6f_34 : decode cJ5_append_3fe6f 34 = .ok (.iconst 1, 1) := by decide +kernel
theorem dJ5_append_3fe6f_35 : decode cJ5_append_3fe6f 35 = .ok (.iadd, 1) := by decide +kernel
theorem dJ5_append_3fe6f_36 : decode cJ5_append_3fe6f 36 = .ok (.putfield 79, 3) := by decide +kernel
theorem dJ5_append_3fe6f_39 : decode cJ5_append_3fe6f 39 = .ok (.iload_n 1, 1) := by decide +kernel
theorem dJ5_append_3fe6f_40 : decode cJ5_append_3fe6f 40 = .ok (.i2b, 1) := by decide +kernel
theorem dJ5_append_3fe6f_41 : decode cJ5_append_3fe6f 41 = .ok (.bastore, 1) := by decide +kernel
theorem dJ5_append_3fe6f_42 : decode cJ5_append_3fe6f 42 = .ok (.goto 33, 3) := by decide +kernel
theorem dJ5_append_3fe6f_75 : decode cJ5_append_3fe6f 75 = .ok (.aload_n 0, 1) := by decide +kernel
theorem dJ5_append_3fe6f_76 : decode cJ5_append_3fe6f 76 = .ok (.areturn, 1) := by decide +kernel
abbrev mJ4_append_cf468 : zM := (yJ4_append_cf468, cJ4_append_cf468, 2, (some (.object "java/lang/StringBuilder")), [])
theorem okJ4_append_cf468 : zMok mJ4_append_cf468 1 := ⟨by decide, by decide, by decide +kernel⟩
theorem dJ4_append_cf468_0 : decode cJ4_append_cf468 0 = .ok (.aload_n 0, 1) := by decide +kernel
theorem dJ4_append_cf468_1 : decode cJ4_append_cf468 1 = .ok (.iload_n 1, 1) := by decide +kernel
theorem dJ4_append_cf468_2 : decode cJ4_append_cf468 2 = .ok (.invokespecial 50, 3) := by decide +kernel
theorem ck_RJ4_50 : kCwSU RJ4 50 mJ5_append_3fe6f := ⟨zall2 [1344, 1455, 1244, 1345] (by decide +kernel) (by decide +kernel), zall [20, 1346] (by decide +kernel) (by decide +kernel)⟩
theorem dJ4_append_cf468_5 : decode cJ4_append_cf468 5 = .ok (.pop, 1) := by decide +kernel
theorem dJ4_append_cf468_6 : decode cJ4_append_cf468 6 = .ok (.aload_n 0, 1) := by decide +kernel
theorem dJ4_append_cf468_7 : decode cJ4_append_cf468 7 = .ok (.areturn, 1) := by decide +kernel
abbrev mJ0_getBytes_840e7 : zM := (yJ0_getBytes_840e7, cJ0_getBytes_840e7, 4, none, [])
theorem okJ0_getBytes_840e7 : zMok mJ0_getBytes_840e7 3 := ⟨by decide, by decide, by decide +kernel⟩
theorem dJ0_getBytes_840e7_0 : decode cJ0_getBytes_840e7 0 = .ok (.aload_n 0, 1) := by decide +kernel
theorem dJ0_getBytes_840e7_1 : decode cJ0_getBytes_840e7 1 = .ok (.invokevirtual 335, 3) := by decide +kernel
theorem dJ0_getBytes_840e7_4 : decode cJ0_getBytes_840e7 4 = .ok (.iload_n 3, 1) := by decide +kernel
theorem dJ0_getBytes_840e7_5 : decode cJ0_getBytes_840e7 5 = .ok (.if_icmp .ne 23, 3) := by decide +kernel
theorem dJ0_getBytes_840e7_8 : decode cJ0_getBytes_840e7 8 = .ok (.aload_n 0, 1) := by decide +kernel
theorem dJ0_getBytes_840e7_9 : decode cJ0_getBytes_840e7 9 = .ok (.getfield 9, 3) := by decide +kernel
theorem dJ0_getBytes_840e7_12 : decode cJ0_getBytes_840e7 12 = .ok (.iconst 0, 1) := by decide +kernel
theorem dJ0_getBytes_840e7_13 : decode cJ0_getBytes_840e7 13 = .ok (.aload_n 1, 1) := by decide +kernel
theorem dJ0_getBytes_840e7_14 : decode cJ0_getBytes_840e7 14 = .ok (.iload_n 2, 1) := by decide +kernel
theorem dJ0_getBytes_840e7_15 : decode cJ0_getBytes_840e7 15 = .ok (.iload_n 3, 1) := by decide +kernel
theorem dJ0_getBytes_840e7_16 : decode cJ0_getBytes_840e7 16 = .ok (.ishl, 1) := by decide +kernel
theorem dJ0_getBytes_840e7_17 : decode cJ0_getBytes_840e7 17 = .ok (.aload_n 0, 1) := by decide +kernel
theorem dJ0_getBytes_840e7_18 : decode cJ0_getBytes_840e7 18 = .ok (.getfield 9, 3) := by decide +kernel
theorem dJ0_getBytes_840e7_21 : decode cJ0_getBytes_840e7 21 = .ok (.arraylength, 1) := by decide +kernel
theorem dJ0_getBytes_840e7_22 : decode cJ0_getBytes_840e7 22 = .ok (.invokestatic 212, 3) := by decide +kernel
theorem aw_RJ0_212 : ∀ x ∈ ([.methodLink RJ0 212 arraycopyName, .native arraycopyName, .static arraycopyName, .initialized "java/lang/System"] : List Cond), x ∈ zgood := zall [1338, 555, 554, 26] (by decide +kernel) (by decide +kernel)
theorem dJ0_getBytes_840e7_25 : decode cJ0_getBytes_840e7 25 = .ok (.goto 18, 3) := by decide +kernel
theorem dJ0_getBytes_840e7_43 : decode cJ0_getBytes_840e7 43 = .ok (.return_, 1) := by decide +kernel
abbrev mJ5_inflateIfNeededFor_a7421 : zM := (yJ5_inflateIfNeededFor_a7421, cJ5_inflateIfNeededFor_a7421, 2, none, [])
theorem okJ5_inflateIfNeededFor_a7421 : zMok mJ5_inflateIfNeededFor_a7421 1 := ⟨by decide, by decide, by decide +kernel⟩
theorem dJ5_inflateIfNeededFor_a7421_0 : decode cJ5_inflateIfNeededFor_a7421 0 = .ok (.getstatic 18, 3) := by decide +kernel
theorem dJ5_inflateIfNeededFor_a7421_3 : decode cJ5_inflateIfNeededFor_a7421 3 = .ok (.ifCond .eq 18, 3) := by decide +kernel
theorem dJ5_inflateIfNeededFor_a7421_6 : decode cJ5_inflateIfNeededFor_a7421 6 = .ok (.aload_n 0, 1) := by decide +kernel
theorem dJ5_inflateIfNeededFor_a7421_7 : decode cJ5_inflateIfNeededFor_a7421 7 = .ok (.getfield 22, 3) := by decide +kernel
theorem dJ5_inflateIfNeededFor_a7421_10 : decode cJ5_inflateIfNeededFor_a7421 10 = .ok (.aload_n 1, 1) := by decide +kernel
theorem dJ5_inflateIfNeededFor_a7421_11 : decode cJ5_inflateIfNeededFor_a7421 11 = .ok (.invokevirtual 40, 3) := by decide +kernel
theorem cw_RJ5_40 : zCwV RJ5 40 mJ0_coder_7d493 := zall [1314, 322, 323, 22, 324] (by decide +kernel) (by decide +kernel)
theorem dJ5_inflateIfNeededFor_a7421_14 : decode cJ5_inflateIfNeededFor_a7421 14 = .ok (.if_icmp .eq 7, 3) := by decide +kernel
theorem dJ5_inflateIfNeededFor_a7421_21 : decode cJ5_inflateIfNeededFor_a7421 21 = .ok (.return_, 1) := by decide +kernel
abbrev mJ5_putStringAt_47b60 : zM := (yJ5_putStringAt_47b60, cJ5_putStringAt_47b60, 3, none, [])
theorem okJ5_putStringAt_47b60 : zMok mJ5_putStringAt_47b60 2 := ⟨by decide, by decide, by decide +kernel⟩
theorem dJ5_putStringAt_47b60_0 : decode cJ5_putStringAt_47b60 0 = .ok (.aload_n 0, 1) := by decide +kernel
theorem dJ5_putStringAt_47b60_1 : decode cJ5_putStringAt_47b60 1 = .ok (.aload_n 2, 1) := by decide +kernel
theorem dJ5_putStringAt_47b60_2 : decode cJ5_putStringAt_47b60 2 = .ok (.invokevirtual 397, 3) := by decide +kernel
theorem ck_RJ5_397 : kCwU RJ5 397 yJ5_inflateIfNeededFor_a7421 mJ5_inflateIfNeededFor_a7421 := ⟨⟨cJ5_inflateIfNeededFor_a7421, 2, none, List.mem_of_getElem? (i := 1313) (by decide +kernel), by decide +kernel⟩, zall2 [1310, 1453, 1312, 1312] (by decide +kernel) (by decide +kernel), zall [20, 1313] (by decide +kernel) (by decide +kernel), Or.inr ⟨rfl, List.mem_of_getElem? (i := 1311) (by decide +kernel), by decide +kernel⟩⟩
theorem dJ5_putStringAt_47b60_5 : decode cJ5_putStringAt_47b60 5 = .ok (.aload_n 2, 1) := by decide +kernel
theorem dJ5_putStringAt_47b60_6 : decode cJ5_putStringAt_47b60 6 = .ok (.aload_n 0, 1) := by decide +kernel
theorem dJ5_putStringAt_47b60_7 : decode cJ5_putStringAt_47b60 7 = .ok (.getfield 15, 3) := by decide +kernel
theorem dJ5_putStringAt_47b60_10 : decode cJ5_putStringAt_47b60 10 = .ok (.iload_n 1, 1) := by decide +kernel
theorem dJ5_putStringAt_47b60_11 : decode cJ5_putStringAt_47b60 11 = .ok (.aload_n 0, 1) := by decide +kernel
theorem dJ5_putStringAt_47b60_12 : decode cJ5_putStringAt_47b60 12 = .ok (.getfield 22, 3) := by decide +kernel
theorem dJ5_putStringAt_47b60_15 : decode cJ5_putStringAt_47b60 15 = .ok (.invokevirtual 399, 3) := by decide +kernel
theorem cw_RJ5_399 : zCwV RJ5 399 mJ0_getBytes_840e7 := zall [1334, 1335, 1336, 22, 1337] (by decide +kernel) (by decide +kernel)
theorem dJ5_putStringAt_47b60_18 : decode cJ5_putStringAt_47b60 18 = .ok (.return_, 1) := by decide +kernel
abbrev mJ5_append_cf1ce : zM := (yJ5_append_cf1ce, cJ5_append_cf1ce, 3, (some (.object "java/lang/AbstractStringBuilder")), [])
theorem okJ5_append_cf1ce : zMok mJ5_append_cf1ce 1 := ⟨by decide, by decide, by decide +kernel⟩
theorem dJ5_append_cf1ce_0 : decode cJ5_append_cf1ce 0 = .ok (.aload_n 1, 1) := by decide +kernel
theorem dJ5_append_cf1ce_1 : decode cJ5_append_cf1ce 1 = .ok (.ifnonnull 8, 3) := by decide +kernel
theorem dJ5_append_cf1ce_9 : decode cJ5_append_cf1ce 9 = .ok (.aload_n 1, 1) := by decide +kernel
theorem dJ5_append_cf1ce_10 : decode cJ5_append_cf1ce 10 = .ok (.invokevirtual 32, 3) := by decide +kernel
theorem cw_RJ5_32 : zCwV RJ5 32 mJ0_length_8abf5 := zall [1305, 318, 319, 22, 320] (by decide +kernel) (by decide +kernel)
theorem dJ5_append_cf1ce_13 : decode cJ5_append_cf1ce 13 = .ok (.istore_n 2, 1) := by decide +kernel
theorem dJ5_append_cf1ce_14 : decode cJ5_append_cf1ce 14 = .ok (.aload_n 0, 1) := by decide +kernel
theorem dJ5_append_cf1ce_15 : decode cJ5_append_cf1ce 15 = .ok (.aload_n 0, 1) := by decide +kernel
theorem dJ5_append_cf1ce_16 : decode cJ5_append_cf1ce 16 = .ok (.getfield 79, 3) := by decide +kernel
theorem dJ5_append_cf1ce_19 : decode cJ5_append_cf1ce 19 = .ok (.iload_n 2, 1) := by decide +kernel
theorem dJ5_append_cf1ce_20 : decode cJ5_append_cf1ce 20 = .ok (.iadd, 1) := by decide +kernel
theorem dJ5_append_cf1ce_21 : decode cJ5_append_cf1ce 21 = .ok (.invokevirtual 100, 3) := by decide +kernel
theorem dJ5_append_cf1ce_24 : decode cJ5_append_cf1ce 24 = .ok (.aload_n 0, 1) := by decide +kernel
theorem dJ5_append_cf1ce_25 : decode cJ5_append_cf1ce 25 = .ok (.aload_n 0, 1) := by decide +kernel
theorem dJ5_append_cf1ce_26 : decode cJ5_append_cf1ce 26 = .ok (.getfield 79, 3) := by decide +kernel
theorem dJ5_append_cf1ce_29 : decode cJ5_append_cf1ce 29 = .ok (.aload_n 1, 1) := by decide +kernel
theorem dJ5_append_cf1ce_30 : decode cJ5_append_cf1ce 30 = .ok (.invokevirtual 208, 3) := by decide +kernel
theorem ck_RJ5_208 : kCwU RJ5 208 yJ5_putStringAt_47b60 mJ5_putStringAt_47b60 := ⟨⟨cJ5_putStringAt_47b60, 3, none, List.mem_of_getElem? (i := 1309) (by decide +kernel), by decide +kernel⟩, zall2 [1306, 1452, 1308, 1308] (by decide +kernel) (by decide +kernel), zall [20, 1309] (by decide +kernel) (by decide +kernel), Or.inr ⟨rfl, List.mem_of_getElem? (i := 1307) (by decide +kernel), by decide +kernel⟩⟩
theorem dJ5_append_cf1ce_33 : decode cJ5_append_cf1ce 33 = .ok (.aload_n 0, 1) := by decide +kernel
theorem dJ5_append_cf1ce_34 : decode cJ5_append_cf1ce 34 = .ok (.dup, 1) := by decide +kernel
theorem dJ5_append_cf1ce_35 : decode cJ5_append_cf1ce 35 = .ok (.getfield 79, 3) := by decide +kernel
theorem dJ5_append_cf1ce_38 : decode cJ5_append_cf1ce 38 = .ok (.iload_n 2, 1) := by decide +kernel
theorem dJ5_append_cf1ce_39 : decode cJ5_append_cf1ce 39 = .ok (.iadd, 1) := by decide +kernel
theorem dJ5_append_cf1ce_40 : decode cJ5_append_cf1ce 40 = .ok (.putfield 79, 3) := by decide +kernel
theorem dJ5_append_cf1ce_43 : decode cJ5_append_cf1ce 43 = .ok (.aload_n 0, 1) := by decide +kernel
theorem dJ5_append_cf1ce_44 : decode cJ5_append_cf1ce 44 = .ok (.areturn, 1) := by decide +kernel
abbrev mJ4_append_15ec4 : zM := (yJ4_append_15ec4, cJ4_append_15ec4, 2, (some (.object "java/lang/StringBuilder")), [])
theorem okJ4_append_15ec4 : zMok mJ4_append_15ec4 1 := ⟨by decide, by decide, by decide +kernel⟩
theorem dJ4_append_15ec4_0 : decode cJ4_append_15ec4 0 = .ok (.aload_n 0, 1) := by decide +kernel
theorem dJ4_append_15ec4_1 : decode cJ4_append_15ec4 1 = .ok (.aload_n 1, 1) := by decide +kernel
theorem dJ4_append_15ec4_2 : decode cJ4_append_15ec4 2 = .ok (.invokespecial 29, 3) := by decide +kernel
theorem ck_RJ4_29 : kCwSU RJ4 29 mJ5_append_cf1ce := ⟨zall2 [1249, 1448, 1244, 1250] (by decide +kernel) (by decide +kernel), zall [20, 1251] (by decide +kernel) (by decide +kernel)⟩
theorem dJ4_append_15ec4_5 : decode cJ4_append_15ec4 5 = .ok (.pop, 1) := by decide +kernel
theorem dJ4_append_15ec4_6 : decode cJ4_append_15ec4 6 = .ok (.aload_n 0, 1) := by decide +kernel
theorem dJ4_append_15ec4_7 : decode cJ4_append_15ec4 7 = .ok (.areturn, 1) := by decide +kernel
abbrev mJ6_stringSize_0f7a4 : zM := (yJ6_stringSize_0f7a4, cJ6_stringSize_0f7a4, 4, (some .int), [])
theorem okJ6_stringSize_0f7a4 : zMok mJ6_stringSize_0f7a4 1 := ⟨by decide, by decide, by decide +kernel⟩
theorem dJ6_stringSize_0f7a4_0 : decode cJ6_stringSize_0f7a4 0 = .ok (.iconst 1, 1) := by decide +kernel
theorem dJ6_stringSize_0f7a4_1 : decode cJ6_stringSize_0f7a4 1 = .ok (.istore_n 1, 1) := by decide +kernel
theorem dJ6_stringSize_0f7a4_2 : decode cJ6_stringSize_0f7a4 2 = .ok (.iload_n 0, 1) := by decide +kernel
theorem dJ6_stringSize_0f7a4_3 : decode cJ6_stringSize_0f7a4 3 = .ok (.ifCond .lt 8, 3) := by decide +kernel
theorem dJ6_stringSize_0f7a4_6 : decode cJ6_stringSize_0f7a4 6 = .ok (.iconst 0, 1) := by decide +kernel
theorem dJ6_stringSize_0f7a4_7 : decode cJ6_stringSize_0f7a4 7 = .ok (.istore_n 1, 1) := by decide +kernel
theorem dJ6_stringSize_0f7a4_8 : decode cJ6_stringSize_0f7a4 8 = .ok (.iload_n 0, 1) := by decide +kernel
theorem dJ6_stringSize_0f7a4_9 : decode cJ6_stringSize_0f7a4 9 = .ok (.ineg, 1) := by decide +kernel
theorem dJ6_stringSize_0f7a4_10 : decode cJ6_stringSize_0f7a4 10 = .ok (.istore_n 0, 1) := by decide +kernel
theorem dJ6_stringSize_0f7a4_11 : decode cJ6_stringSize_0f7a4 11 = .ok (.bipush (-10), 2) := by decide +kernel
theorem dJ6_stringSize_0f7a4_13 : decode cJ6_stringSize_0f7a4 13 = .ok (.istore_n 2, 1) := by decide +kernel
theorem dJ6_stringSize_0f7a4_14 : decode cJ6_stringSize_0f7a4 14 = .ok (.iconst 1, 1) := by decide +kernel
theorem dJ6_stringSize_0f7a4_15 : decode cJ6_stringSize_0f7a4 15 = .ok (.istore_n 3, 1) := by decide +kernel
theorem dJ6_stringSize_0f7a4_16 : decode cJ6_stringSize_0f7a4 16 = .ok (.iload_n 3, 1) := by decide +kernel
theorem dJ6_stringSize_0f7a4_17 : decode cJ6_stringSize_0f7a4 17 = .ok (.bipush 10, 2) := by decide +kernel
theorem dJ6_stringSize_0f7a4_19 : decode cJ6_stringSize_0f7a4 19 = .ok (.if_icmp .ge 23, 3) := by decide +kernel
theorem dJ6_stringSize_0f7a4_22 : decode cJ6_stringSize_0f7a4 22 = .ok (.iload_n 0, 1) := by decide +kernel
theorem dJ6_stringSize_0f7a4_23 : decode cJ6_stringSize_0f7a4 23 = .ok (.iload_n 2, 1) := by decide +kernel
theorem dJ6_stringSize_0f7a4_24 : decode cJ6_stringSize_0f7a4 24 = .ok (.if_icmp .le 7, 3) := by decide +kernel
theorem dJ6_stringSize_0f7a4_27 : decode cJ6_stringSize_0f7a4 27 = .ok (.iload_n 3, 1) := by decide +kernel
theorem dJ6_stringSize_0f7a4_28 : decode cJ6_stringSize_0f7a4 28 = .ok (.iload_n 1, 1) := by decide +kernel
theorem dJ6_stringSize_0f7a4_29 : decode cJ6_stringSize_0f7a4 29 = .ok (.iadd, 1) := by decide +kernel
theorem dJ6_stringSize_0f7a4_30 : decode cJ6_stringSize_0f7a4 30 = .ok (.ireturn, 1) := by decide +kernel
theorem dJ6_stringSize_0f7a4_31 : decode cJ6_stringSize_0f7a4 31 = .ok (.bipush 10, 2) := by decide +kernel
theorem dJ6_stringSize_0f7a4_33 : decode cJ6_stringSize_0f7a4 33 = .ok (.iload_n 2, 1) := by decide +kernel
theorem dJ6_stringSize_0f7a4_34 : decode cJ6_stringSize_0f7a4 34 = .ok (.imul, 1) := by decide +kernel
theorem dJ6_stringSize_0f7a4_35 : decode cJ6_stringSize_0f7a4 35 = .ok (.istore_n 2, 1) := by decide +kernel
theorem dJ6_stringSize_0f7a4_36 : decode cJ6_stringSize_0f7a4 36 = .ok (.iinc 3 1, 3) := by decide +kernel
theorem dJ6_stringSize_0f7a4_39 : decode cJ6_stringSize_0f7a4 39 = .ok (.goto (-23), 3) := by decide +kernel
abbrev mJ6_getChars_ba4f3 : zM := (yJ6_getChars_ba4f3, cJ6_getChars_ba4f3, 7, (some .int), [])
theorem okJ6_getChars_ba4f3 : zMok mJ6_getChars_ba4f3 3 := ⟨by decide, by decide, by decide +kernel⟩
theorem dJ6_getChars_ba4f3_0 : decode cJ6_getChars_ba4f3 0 = .ok (.iload_n 1, 1) := by decide +kernel
theorem dJ6_getChars_ba4f3_1 : decode cJ6_getChars_ba4f3 1 = .ok (.istore 5, 2) := by decide +kernel
theorem dJ6_getChars_ba4f3_3 : decode cJ6_getChars_ba4f3 3 = .ok (.iload_n 0, 1) := by decide +kernel
theorem dJ6_getChars_ba4f3_4 : decode cJ6_getChars_ba4f3 4 = .ok (.ifCond .ge 7, 3) := by decide +kernel
theorem dJ6_getChars_ba4f3_11 : decode cJ6_getChars_ba4f3 11 = .ok (.iconst 0, 1) := by decide +kernel
theorem dJ6_getChars_ba4f3_12 : decode cJ6_getChars_ba4f3 12 = .ok (.istore 6, 2) := by decide +kernel
theorem dJ6_getChars_ba4f3_14 : decode cJ6_getChars_ba4f3 14 = .ok (.iload 6, 2) := by decide +kernel
theorem dJ6_getChars_ba4f3_16 : decode cJ6_getChars_ba4f3 16 = .ok (.ifCond .ne 6, 3) := by decide +kernel
theorem dJ6_getChars_ba4f3_19 : decode cJ6_getChars_ba4f3 19 = .ok (.iload_n 0, 1) := by decide +kernel
theorem dJ6_getChars_ba4f3_20 : decode cJ6_getChars_ba4f3 20 = .ok (.ineg, 1) := by decide +kernel
theorem dJ6_getChars_ba4f3_21 : decode cJ6_getChars_ba4f3 21 = .ok (.istore_n 0, 1) := by decide +kernel
theorem dJ6_getChars_ba4f3_22 : decode cJ6_getChars_ba4f3 22 = .ok (.iload_n 0, 1) := by decide +kernel
theorem dJ6_getChars_ba4f3_23 : decode cJ6_getChars_ba4f3 23 = .ok (.bipush (-100), 2) := by decide +kernel
theorem dJ6_getChars_ba4f3_25 : decode cJ6_getChars_ba4f3 25 = .ok (.if_icmp .gt 47, 3) := by decide +kernel
theorem dJ6_getChars_ba4f3_72 : decode cJ6_getChars_ba4f3 72 = .ok (.aload_n 2, 1) := by decide +kernel
theorem dJ6_getChars_ba4f3_73 : decode cJ6_getChars_ba4f3 73 = .ok (.iinc 5 (-1), 3) := by decide +kernel
theorem dJ6_getChars_ba4f3_76 : decode cJ6_getChars_ba4f3 76 = .ok (.iload 5, 2) := by decide +kernel
theorem dJ6_getChars_ba4f3_78 : decode cJ6_getChars_ba4f3 78 = .ok (.getstatic 83, 3) := by decide +kernel
theorem fs_RJ6_83 : Cond.fieldLink "java/lang/Integer" 83 "java/lang/Integer" "DigitOnes" "[B" ∈ zgood := zmem1 1366 (by decide +kernel) rfl
theorem dJ6_getChars_ba4f3_81 : decode cJ6_getChars_ba4f3 81 = .ok (.iload_n 0, 1) := by decide +kernel
theorem dJ6_getChars_ba4f3_82 : decode cJ6_getChars_ba4f3 82 = .ok (.ineg, 1) := by decide +kernel
theorem dJ6_getChars_ba4f3_83 : decode cJ6_getChars_ba4f3 83 = .ok (.baload, 1) := by decide +kernel
theorem dJ6_getChars_ba4f3_84 : decode cJ6_getChars_ba4f3 84 = .ok (.bastore, 1) := by decide +kernel
theorem dJ6_getChars_ba4f3_85 : decode cJ6_getChars_ba4f3 85 = .ok (.iload_n 0, 1) := by decide +kernel
theorem dJ6_getChars_ba4f3_86 : decode cJ6_getChars_ba4f3 86 = .ok (.bipush (-9), 2) := by decide +kernel
theorem dJ6_getChars_ba4f3_88 : decode cJ6_getChars_ba4f3 88 = .ok (.if_icmp .ge 16, 3) := by decide +kernel
theorem dJ6_getChars_ba4f3_104 : decode cJ6_getChars_ba4f3 104 = .ok (.iload 6, 2) := by decide +kernel
theorem dJ6_getChars_ba4f3_106 : decode cJ6_getChars_ba4f3 106 = .ok (.ifCond .eq 12, 3) := by decide +kernel
theorem dJ6_getChars_ba4f3_118 : decode cJ6_getChars_ba4f3 118 = .ok (.iload 5, 2) := by decide +kernel
theorem dJ6_getChars_ba4f3_120 : decode cJ6_getChars_ba4f3 120 = .ok (.ireturn, 1) := by decide +kernel
theorem dJ6_getChars_ba4f3_28 : decode cJ6_getChars_ba4f3 28 = .ok (.iload_n 0, 1) := by decide +kernel
theorem dJ6_getChars_ba4f3_29 : decode cJ6_getChars_ba4f3 29 = .ok (.bipush 100, 2) := by decide +kernel
theorem dJ6_getChars_ba4f3_31 : decode cJ6_getChars_ba4f3 31 = .ok (.idiv, 1) := by decide +kernel
theorem dJ6_getChars_ba4f3_32 : decode cJ6_getChars_ba4f3 32 = .ok (.istore_n 3, 1) := by decide +kernel
theorem dJ6_getChars_ba4f3_33 : decode cJ6_getChars_ba4f3 33 = .ok (.iload_n 3, 1) := by decide +kernel
theorem dJ6_getChars_ba4f3_34 : decode cJ6_getChars_ba4f3 34 = .ok (.bipush 100, 2) := by decide +kernel
theorem dJ6_getChars_ba4f3_36 : decode cJ6_getChars_ba4f3 36 = .ok (.imul, 1) := by decide +kernel
theorem dJ6_getChars_ba4f3_37 : decode cJ6_getChars_ba4f3 37 = .ok (.iload_n 0, 1) := by decide +kernel
theorem dJ6_getChars_ba4f3_38 : decode cJ6_getChars_ba4f3 38 = .ok (.isub, 1) := by decide +kernel
theorem dJ6_getChars_ba4f3_39 : decode cJ6_getChars_ba4f3 39 = .ok (.istore 4, 2) := by decide +kernel
theorem dJ6_getChars_ba4f3_41 : decode cJ6_getChars_ba4f3 41 = .ok (.iload_n 3, 1) := by decide +kernel
theorem dJ6_getChars_ba4f3_42 : decode cJ6_getChars_ba4f3 42 = .ok (.istore_n 0, 1) := by decide +kernel
theorem dJ6_getChars_ba4f3_43 : decode cJ6_getChars_ba4f3 43 = .ok (.aload_n 2, 1) := by decide +kernel
theorem dJ6_getChars_ba4f3_44 : decode cJ6_getChars_ba4f3 44 = .ok (.iinc 5 (-1), 3) := by decide +kernel
theorem dJ6_getChars_ba4f3_47 : decode cJ6_getChars_ba4f3 47 = .ok (.iload 5, 2) := by decide +kernel
theorem dJ6_getChars_ba4f3_49 : decode cJ6_getChars_ba4f3 49 = .ok (.getstatic 83, 3) := by decide +kernel
theorem dJ6_getChars_ba4f3_52 : decode cJ6_getChars_ba4f3 52 = .ok (.iload 4, 2) := by decide +kernel
theorem dJ6_getChars_ba4f3_54 : decode cJ6_getChars_ba4f3 54 = .ok (.baload, 1) := by decide +kernel
theorem dJ6_getChars_ba4f3_55 : decode cJ6_getChars_ba4f3 55 = .ok (.bastore, 1) := by decide +kernel
theorem dJ6_getChars_ba4f3_56 : decode cJ6_getChars_ba4f3 56 = .ok (.aload_n 2, 1) := by decide +kernel
theorem dJ6_getChars_ba4f3_57 : decode cJ6_getChars_ba4f3 57 = .ok (.iinc 5 (-1), 3) := by decide +kernel
theorem dJ6_getChars_ba4f3_60 : decode cJ6_getChars_ba4f3 60 = .ok (.iload 5, 2) := by decide +kernel
theorem dJ6_getChars_ba4f3_62 : decode cJ6_getChars_ba4f3 62 = .ok (.getstatic 87, 3) := by decide +kernel
theorem fs_RJ6_87 : Cond.fieldLink "java/lang/Integer" 87 "java/lang/Integer" "DigitTens" "[B" ∈ zgood := zmem1 1368 (by decide +kernel) rfl
theorem dJ6_getChars_ba4f3_65 : decode cJ6_getChars_ba4f3 65 = .ok (.iload 4, 2) := by decide +kernel
theorem dJ6_getChars_ba4f3_67 : decode cJ6_getChars_ba4f3 67 = .ok (.baload, 1) := by decide +kernel
theorem dJ6_getChars_ba4f3_68 : decode cJ6_getChars_ba4f3 68 = .ok (.bastore, 1) := by decide +kernel
theorem dJ6_getChars_ba4f3_69 : decode cJ6_getChars_ba4f3 69 = .ok (.goto (-47), 3) := by decide +kernel
theorem dJ6_getChars_ba4f3_91 : decode cJ6_getChars_ba4f3 91 = .ok (.aload_n 2, 1) := by decide +kernel
theorem dJ6_getChars_ba4f3_92 : decode cJ6_getChars_ba4f3 92 = .ok (.iinc 5 (-1), 3) := by decide +kernel
theorem dJ6_getChars_ba4f3_95 : decode cJ6_getChars_ba4f3 95 = .ok (.iload 5, 2) := by decide +kernel
theorem dJ6_getChars_ba4f3_97 : decode cJ6_getChars_ba4f3 97 = .ok (.getstatic 87, 3) := by decide +kernel
theorem dJ6_getChars_ba4f3_100 : decode cJ6_getChars_ba4f3 100 = .ok (.iload_n 0, 1) := by decide +kernel
theorem dJ6_getChars_ba4f3_101 : decode cJ6_getChars_ba4f3 101 = .ok (.ineg, 1) := by decide +kernel
theorem dJ6_getChars_ba4f3_102 : decode cJ6_getChars_ba4f3 102 = .ok (.baload, 1) := by decide +kernel
theorem dJ6_getChars_ba4f3_103 : decode cJ6_getChars_ba4f3 103 = .ok (.bastore, 1) := by decide +kernel
abbrev mJ5_append_c97b9 : zM := (yJ5_append_c97b9, cJ5_append_c97b9, 4, (some (.object "java/lang/AbstractStringBuilder")), [])
theorem okJ5_append_c97b9 : zMok mJ5_append_c97b9 1 := ⟨by decide, by decide, by decide +kernel⟩
theorem dJ5_append_c97b9_0 : decode cJ5_append_c97b9 0 = .ok (.aload_n 0, 1) := by decide +kernel
theorem dJ5_append_c97b9_1 : decode cJ5_append_c97b9 1 = .ok (.getfield 79, 3) := by decide +kernel
theorem dJ5_append_c97b9_4 : decode cJ5_append_c97b9 4 = .ok (.istore_n 2, 1) := by decide +kernel
theorem dJ5_append_c97b9_5 : decode cJ5_append_c97b9 5 = .ok (.iload_n 2, 1) := by decide +kernel
theorem dJ5_append_c97b9_6 : decode cJ5_append_c97b9 6 = .ok (.iload_n 1, 1) := by decide +kernel
theorem dJ5_append_c97b9_7 : decode cJ5_append_c97b9 7 = .ok (.invokestatic 245, 3) := by decide +kernel
theorem cw_RJ5_245 : zCwS RJ5 245 mJ6_stringSize_0f7a4 := zall [1360, 1361, 30, 1362] (by decide +kernel) (by decide +kernel)
theorem dJ5_append_c97b9_10 : decode cJ5_append_c97b9 10 = .ok (.iadd, 1) := by decide +kernel
theorem dJ5_append_c97b9_11 : decode cJ5_append_c97b9 11 = .ok (.istore_n 3, 1) := by decide +kernel
theorem dJ5_append_c97b9_12 : decode cJ5_append_c97b9 12 = .ok (.aload_n 0, 1) := by decide +kernel
theorem dJ5_append_c97b9_13 : decode cJ5_append_c97b9 13 = .ok (.iload_n 3, 1) := by decide +kernel
theorem dJ5_append_c97b9_14 : decode cJ5_append_c97b9 14 = .ok (.invokevirtual 100, 3) := by decide +kernel
theorem dJ5_append_c97b9_17 : decode cJ5_append_c97b9 17 = .ok (.aload_n 0, 1) := by decide +kernel
theorem dJ5_append_c97b9_18 : decode cJ5_append_c97b9 18 = .ok (.invokevirtual 83, 3) := by decide +kernel
theorem dJ5_append_c97b9_21 : decode cJ5_append_c97b9 21 = .ok (.ifCond .eq 16, 3) := by decide +kernel
theorem dJ5_append_c97b9_24 : decode cJ5_append_c97b9 24 = .ok (.iload_n 1, 1) := by decide +kernel
theorem dJ5_append_c97b9_25 : decode cJ5_append_c97b9 25 = .ok (.iload_n 3, 1) := by decide +kernel
theorem dJ5_append_c97b9_26 : decode cJ5_append_c97b9 26 = .ok (.aload_n 0, 1) := by decide +kernel
theorem dJ5_append_c97b9_27 : decode cJ5_append_c97b9 27 = .ok (.getfield 15, 3) := by decide +kernel
theorem dJ5_append_c97b9_30 : decode cJ5_append_c97b9 30 = .ok (.invokestatic 248, 3) := by decide +kernel
theorem cw_RJ5_248 : zCwS RJ5 248 mJ6_getChars_ba4f3 := zall [1363, 1364, 30, 1365] (by decide +kernel) (by decide +kernel)
theorem dJ5_append_c97b9_33 : decode cJ5_append_c97b9 33 = .ok (.pop, 1) := by decide +kernel
theorem dJ5_append_c97b9_34 : decode cJ5_append_c97b9 34 = .ok (.goto 14, 3) := by decide +kernel
theorem dJ5_append_c97b9_48 : decode cJ5_append_c97b9 48 = .ok (.aload_n 0, 1) := by decide +kernel
theorem dJ5_append_c97b9_49 : decode cJ5_append_c97b9 49 = .ok (.iload_n 3, 1) := by decide +kernel
theorem dJ5_append_c97b9_50 : decode cJ5_append_c97b9 50 = .ok (.putfield 79, 3) := by decide +kernel
theorem dJ5_append_c97b9_53 : decode cJ5_append_c97b9 53 = .ok (.aload_n 0, 1) := by decide +kernel
theorem dJ5_append_c97b9_54 : decode cJ5_append_c97b9 54 = .ok (.areturn, 1) := by decide +kernel
abbrev mJ4_append_bf812 : zM := (yJ4_append_bf812, cJ4_append_bf812, 2, (some (.object "java/lang/StringBuilder")), [])
theorem okJ4_append_bf812 : zMok mJ4_append_bf812 1 := ⟨by decide, by decide, by decide +kernel⟩
theorem dJ4_append_bf812_0 : decode cJ4_append_bf812 0 = .ok (.aload_n 0, 1) := by decide +kernel
theorem dJ4_append_bf812_1 : decode cJ4_append_bf812 1 = .ok (.iload_n 1, 1) := by decide +kernel
theorem dJ4_append_bf812_2 : decode cJ4_append_bf812 2 = .ok (.invokespecial 53, 3) := by decide +kernel
theorem ck_RJ4_53 : kCwSU RJ4 53 mJ5_append_c97b9 := ⟨zall2 [1357, 1456, 1244, 1358] (by decide +kernel) (by decide +kernel), zall [20, 1359] (by decide +kernel) (by decide +kernel)⟩
theorem dJ4_append_bf812_5 : decode cJ4_append_bf812 5 = .ok (.pop, 1) := by decide +kernel
theorem dJ4_append_bf812_6 : decode cJ4_append_bf812 6 = .ok (.aload_n 0, 1) := by decide +kernel
theorem dJ4_append_bf812_7 : decode cJ4_append_bf812 7 = .ok (.areturn, 1) := by decide +kernel
theorem k_atc {f : Nat → Int32} {n j : Nat} {c : Int} (h : j = 0) : upd f n (Int32.ofInt c) (n + j) = Int32.ofInt ([c].getD j 0) := by
  subst h
  exact upd_s _ _ _
theorem k_tdv {v : Int} (h : 1000 ≤ v) : (-v).tdiv 100 = -(v / 100) := by
  rw [Int.neg_tdiv, Int.tdiv_eq_ediv_of_nonneg (by omega)]
theorem k_at1 {f : Nat → Int32} {n j : Nat} {v : Int} (h : j = 0) : upd f (n + 1 - 1) (Int32.ofInt (48 + v % 10)) (n + j) = Int32.ofInt ([48 + v % 10].getD j 0) := by
  subst h
  rw [show n + 1 - 1 = n + 0 by omega, upd_s]
  rfl
theorem k_at4 {f : Nat → Int32} {n j : Nat} {a b c d : Int} (h : j < 4) : upd (upd (upd (upd f (n + 4 - 1) (Int32.ofInt d)) (n + 4 - 2) (Int32.ofInt c)) (n + 4 - 3) (Int32.ofInt b)) (n + 4 - 4) (Int32.ofInt a) (n + j) = Int32.ofInt ([a, b, c, d].getD j 0) := by
  rcases (by omega : j = 0 ∨ j = 1 ∨ j = 2 ∨ j = 3) with rfl | rfl | rfl | rfl
  · rw [show n + 4 - 4 = n + 0 by omega, upd_s]; rfl
  · rw [upd_n _ _ (by omega), show n + 4 - 3 = n + 1 by omega, upd_s]; rfl
  · rw [upd_n _ _ (by omega), upd_n _ _ (by omega), show n + 4 - 2 = n + 2 by omega, upd_s]; rfl
  · rw [upd_n _ _ (by omega), upd_n _ _ (by omega), upd_n _ _ (by omega), show n + 4 - 1 = n + 3 by omega, upd_s]; rfl

set_option maxRecDepth 20000 in
set_option maxHeartbeats 2000000 in
theorem kAppC0 {l : Launch} {w : zW} (hfl : l.stackTraces = false) {E : List va_E} {a b m : Nat} {L : List Int} {c : Int} (hB : BS w E a b m L) (hc : 0 ≤ c ∧ c < 128) (hq : L.length + 1 ≤ 600 ∧ m ≤ 1300) : kSp l w mJ5_append_3fe6f 5 (kn (L.length + 1) m) (kcp (L.length + 1) m) [zV0 (zB w + a), zi c] E (some (zV0 (zB w + a))) (fun E' => BS w E' a (kbx E b (L.length + 1) m) (kcp (L.length + 1) m) (L ++ [c]) ∧ ∀ j, j < E.length → j ≠ a → j ≠ b → E'[j]? = E[j]?) := by
  refine kk_enter hfl (by decide) rfl false (fun q => absurd q (by decide)) 0 rfl ?_
  show zK l w mJ5_append_3fe6f _ false 0 [zV0 (zB w + a), zi c] [] 0 0 E
  obtain ⟨hA, f, hF, hby, hf, hnm⟩ := id hB
  refine kk_aloadN dJ5_append_3fe6f_0 rfl rfl ?_
  refine kk_aloadN dJ5_append_3fe6f_1 rfl rfl ?_
  refine kk_getf (v := zi ((L.length : Nat) : Int)) rfl kf_RJ5_79 hA rfl trivial dJ5_append_3fe6f_2 ?_
  refine kk_iconst dJ5_append_3fe6f_5 ?_
  refine kk_iadd dJ5_append_3fe6f_6 ?_
  refine kj_top (b := ((L.length + 1 : Nat) : Int)) (by omega) ?_
  refine kk_callU [zi ((L.length + 1 : Nat) : Int)] (kEns hfl (by first | assumption | omega) (by first | assumption | omega)) rfl hA dJ5_append_3fe6f_7 ck_RJ5_100 okJ5_ensureCapacityInternal_d00df rfl (Nat.le_of_ble_eq_true rfl) ⟨Nat.le_of_ble_eq_true rfl, Nat.le_of_ble_eq_true rfl, by show _ ≤ _; simp only [kM, kRm]; omega, by show _ ≤ _; simp only [kM, kRm]; omega⟩ (fun _ => rfl) (fun x q => by cases q) (fun E7 q7 z7 => ?_)
  obtain ⟨hB7, hk7⟩ := q7
  obtain ⟨hA7, f7, hF7, hby7, hf7, hnm7⟩ := id hB7
  have hcp := kcp_ge (L.length + 1) m
  have hcl := kcp_le (q := (L.length + 1)) (m := m) (by omega) (by omega)
  refine kk_aloadN dJ5_append_3fe6f_10 rfl rfl ?_
  refine kk_callU [] (kIsL hfl (by first | assumption | omega)) rfl hA7 dJ5_append_3fe6f_11 ck_RJ5_83 okJ5_isLatin1_aae02 rfl (Nat.le_of_ble_eq_true rfl) ⟨Nat.le_of_ble_eq_true rfl, Nat.le_of_ble_eq_true rfl, by show _ ≤ _; simp only [kM, kRm]; omega, by show _ ≤ _; simp only [kM, kRm]; omega⟩ (fun q => kne hA7 q) (fun x q => by cases q; trivial) (fun E11 q11 _ => ?_)
  rw [q11]
  refine kk_if_eq (tgt := 45) (by first | assumption | (unfold zr at *; omega)) dJ5_append_3fe6f_14 (by decide) (fun h14 => ?_) (fun h14 => ?_)
  · exact absurd h14 (by decide)
  · refine kk_iloadN dJ5_append_3fe6f_17 rfl rfl ?_
    refine kk_callS [zi c] (kCan hfl (by first | assumption | omega)) dJ5_append_3fe6f_18 cw_RJ5_191 okJ1_canEncode_fc78d rfl (Nat.le_of_ble_eq_true rfl) ⟨Nat.le_of_ble_eq_true rfl, Nat.le_of_ble_eq_true rfl, by show _ ≤ _; simp only [kM, kRm]; omega, by show _ ≤ _; simp only [kM, kRm]; omega⟩ (fun q => kne hA7 q) (fun x q => by cases q; trivial) (fun E18 q18 _ => ?_)
    rw [q18]
    refine kk_if_eq (tgt := 45) (by first | assumption | (unfold zr at *; omega)) dJ5_append_3fe6f_21 (by decide) (fun h21 => ?_) (fun h21 => ?_)
    · exact absurd h21 (by decide)
    · refine kk_aloadN dJ5_append_3fe6f_24 rfl rfl ?_
      refine kk_getf (v := zV0 (zB w + (kbx E b (L.length + 1) m))) rfl kf_RJ5_15 hA7 rfl trivial dJ5_append_3fe6f_25 ?_
      refine kk_aloadN dJ5_append_3fe6f_28 rfl rfl ?_
      refine kk_dup rfl dJ5_append_3fe6f_29 ?_
      refine kk_getf (v := zi ((L.length : Nat) : Int)) rfl kf_RJ5_79 hA7 rfl trivial dJ5_append_3fe6f_30 ?_
      refine kk_dupx1 rfl rfl dJ5_append_3fe6f_33 ?_
      refine kk_iconst dJ5_append_3fe6f_34 ?_
      refine kk_iadd dJ5_append_3fe6f_35 ?_
      refine kk_putf (ty := .int) rfl kf_RJ5_79 hA7 (Nat.le_of_ble_eq_true rfl) (fun Cn T N q => by cases q; exact ⟨rfl, Or.inl rfl⟩) rfl rfl dJ5_append_3fe6f_36 (fun E36 z36 e36 k36 => ?_)
      have f36_1 := (k36 _ (knq_bo hF7 hA7)).trans hF7
      refine kk_iloadN dJ5_append_3fe6f_39 rfl rfl ?_
      refine kk_i2b dJ5_append_3fe6f_40 ?_
      refine kj_top (b := c) (kb8_v hc.1 hc.2) ?_
      refine kk_bast (i := L.length) rfl f36_1 (by omega) (by omega) (by omega) (by omega) (by omega) dJ5_append_3fe6f_41 (fun E41 z41 e41 k41 => ?_)
      have f41_0 := (k41 _ (knq_ob e36 f36_1)).trans e36
      refine kk_goto (tgt := 75) dJ5_append_3fe6f_42 (by decide) ?_
      refine kk_aloadN dJ5_append_3fe6f_75 rfl rfl ?_
      refine kk_aret rfl (by first | exact Or.inl ⟨_, rfl⟩ | exact Or.inr ⟨_, rfl⟩) dJ5_append_3fe6f_76 ?_ ?_ ?_ ?_
      · exact ⟨BS_app (K := [c]) f41_0 (by show _ = ((L.length + 1 : Nat) : Int); omega) e41 (kBy_u hby7 (kby_v hc.1 hc.2)) (fun j hj => (upd_n _ _ (by omega)).trans (hf7 j hj)) (fun j hj => k_atc (by have : j < 1 := hj; omega)) (by show L.length + 1 ≤ _; omega), (fun j h1 h2 h3 => (k41 j (kbx_ne h1 h3)).trans ((k36 j h2).trans (hk7 j h1 h2)))⟩
      · omega
      · omega
      · omega
set_option maxRecDepth 20000 in
set_option maxHeartbeats 2000000 in
theorem kAppC {l : Launch} {w : zW} (hfl : l.stackTraces = false) {E : List va_E} {a b m : Nat} {L : List Int} {c : Int} (hB : BS w E a b m L) (hc : 0 ≤ c ∧ c < 128) (hq : L.length + 1 ≤ 600 ∧ m ≤ 1300) : kSp l w mJ4_append_cf468 6 (kn (L.length + 1) m) (kcp (L.length + 1) m) [zV0 (zB w + a), zi c] E (some (zV0 (zB w + a))) (fun E' => BS w E' a (kbx E b (L.length + 1) m) (kcp (L.length + 1) m) (L ++ [c]) ∧ ∀ j, j < E.length → j ≠ a → j ≠ b → E'[j]? = E[j]?) := by
  refine kk_enter hfl (by decide) rfl false (fun q => absurd q (by decide)) 0 rfl ?_
  show zK l w mJ4_append_cf468 _ false 0 [zV0 (zB w + a), zi c] [] 0 0 E
  obtain ⟨hA, f, hF, hby, hf, hnm⟩ := id hB
  refine kk_aloadN dJ4_append_cf468_0 rfl rfl ?_
  refine kk_iloadN dJ4_append_cf468_1 rfl rfl ?_
  refine kk_callSU [zi c] (kAppC0 hfl (by first | assumption | omega) (by first | assumption | omega) (by first | assumption | omega)) rfl hA dJ4_append_cf468_2 ck_RJ4_50 (by decide) okJ5_append_3fe6f rfl (Nat.le_of_ble_eq_true rfl) ⟨Nat.le_of_ble_eq_true rfl, Nat.le_of_ble_eq_true rfl, by show _ ≤ _; simp only [kM, kRm]; omega, by show _ ≤ _; simp only [kM, kRm]; omega⟩ (fun _ => rfl) (fun x q => by cases q; trivial) (fun E2 q2 z2 => ?_)
  refine kk_pop rfl dJ4_append_cf468_5 ?_
  refine kk_aloadN dJ4_append_cf468_6 rfl rfl ?_
  refine kk_aret rfl (by first | exact Or.inl ⟨_, rfl⟩ | exact Or.inr ⟨_, rfl⟩) dJ4_append_cf468_7 ?_ ?_ ?_ ?_
  · exact q2
  · omega
  · omega
  · omega
set_option maxRecDepth 20000 in
set_option maxHeartbeats 2000000 in
theorem kCoder {l : Launch} {w : zW} (hfl : l.stackTraces = false) {E : List va_E} {j : Nat}  : kSp l w mJ0_coder_7d493 0 0 0 [zf 100 j] E (some (zi 0)) (fun E' => E' = E) := by
  refine kk_enter hfl (by decide) rfl false (fun q => absurd q (by decide)) 0 rfl ?_
  show zK l w mJ0_coder_7d493 _ false 0 [zf 100 j] [] 0 0 E
  refine kk_compact fs_RJ0_38 dJ0_coder_7d493_0 ?_
  refine kk_if_eq (tgt := 13) (by first | assumption | (unfold zr at *; omega)) dJ0_coder_7d493_3 (by decide) (fun h3 => ?_) (fun h3 => ?_)
  · exact absurd h3 (by decide)
  · refine kk_aloadNF dJ0_coder_7d493_6 rfl rfl ?_
    refine kk_strC fs_RJ0_15 dJ0_coder_7d493_7 ?_
    refine kk_goto (tgt := 14) dJ0_coder_7d493_10 (by decide) ?_
    refine kk_iret rfl rfl dJ0_coder_7d493_14 ?_ ?_ ?_ ?_
    · rfl
    · omega
    · omega
    · omega
set_option maxRecDepth 20000 in
set_option maxHeartbeats 2000000 in
theorem kSLen {l : Launch} {w : zW} (hfl : l.stackTraces = false) {E : List va_E} {j : Nat} (hl : zslen.getD j 0 ≤ 60000) : kSp l w mJ0_length_8abf5 1 0 0 [zf 100 j] E (some (zi ((zslen.getD j 0 : Nat) : Int))) (fun E' => E' = E) := by
  refine kk_enter hfl (by decide) rfl false (fun q => absurd q (by decide)) 0 rfl ?_
  show zK l w mJ0_length_8abf5 _ false 0 [zf 100 j] [] 0 0 E
  refine kk_aloadNF dJ0_length_8abf5_0 rfl rfl ?_
  refine kk_strV fs_RJ0_9 dJ0_length_8abf5_1 ?_
  refine kk_strL dJ0_length_8abf5_4 ?_
  refine kk_aloadNF dJ0_length_8abf5_5 rfl rfl ?_
  refine kk_callT [] (kCoder hfl ) rfl dJ0_length_8abf5_6 cw_RJ0_335 okJ0_coder_7d493 rfl (Nat.le_of_ble_eq_true rfl) ⟨Nat.le_of_ble_eq_true rfl, Nat.le_of_ble_eq_true rfl, by show _ ≤ _; simp only [kM, kRm]; omega, by show _ ≤ _; simp only [kM, kRm]; omega⟩ (fun _ => rfl) (fun x q => by cases q; trivial) (fun E6 q6 _ => ?_)
  rw [q6]
  refine kk_ishr dJ0_length_8abf5_9 ?_
  refine kj_top (b := ((zslen.getD j 0 : Nat) : Int)) (zshr_0 (by first | assumption | (unfold zr at *; omega))) ?_
  refine kk_iret rfl rfl dJ0_length_8abf5_10 ?_ ?_ ?_ ?_
  · rfl
  · omega
  · omega
  · omega
set_option maxRecDepth 20000 in
set_option maxHeartbeats 2000000 in
theorem kGetB {l : Launch} {w : zW} (hfl : l.stackTraces = false) {E : List va_E} {b m n j : Nat} {f : Nat → Int32} (hF : E[b]? = some (.inl (zA w 1, m, .inl f))) (hby : kBy f) (hb : kBy (fun i => (zsbyt.getD j []).getD i 0)) (hr : n + zslen.getD j 0 ≤ m ∧ m ≤ 60000) : kSp l w mJ0_getBytes_840e7 3 0 0 [zf 100 j, zV0 (zB w + b), zi ((n : Nat) : Int), zi 0] E (none) (fun E' => E'[b]? = some (.inl (zA w 1, m, .inl (va_cpy (fun i => (zsbyt.getD j []).getD i 0) f 0 n (zslen.getD j 0)))) ∧ (∀ i, i ≠ b → E'[i]? = E[i]?)) := by
  refine kk_enter hfl (by decide) rfl false (fun q => absurd q (by decide)) 0 rfl ?_
  show zK l w mJ0_getBytes_840e7 _ false 0 [zf 100 j, zV0 (zB w + b), zi ((n : Nat) : Int), zi 0] [] 0 0 E
  have hb1 := (List.getElem?_eq_some_iff.mp hF).1
  refine kk_aloadNF dJ0_getBytes_840e7_0 rfl rfl ?_
  refine kk_callT [] (kCoder hfl ) rfl dJ0_getBytes_840e7_1 cw_RJ0_335 okJ0_coder_7d493 rfl (Nat.le_of_ble_eq_true rfl) ⟨Nat.le_of_ble_eq_true rfl, Nat.le_of_ble_eq_true rfl, by show _ ≤ _; simp only [kM, kRm]; omega, by show _ ≤ _; simp only [kM, kRm]; omega⟩ (fun _ => rfl) (fun x q => by cases q; trivial) (fun E1 q1 _ => ?_)
  rw [q1]
  refine kk_iloadN dJ0_getBytes_840e7_4 rfl rfl ?_
  refine kk_icmp_ne (tgt := 28) (by first | assumption | (unfold zr at *; omega)) (by first | assumption | (unfold zr at *; omega)) dJ0_getBytes_840e7_5 (by decide) (fun h5 => ?_) (fun h5 => ?_)
  · exact absurd h5 (by decide)
  · refine kk_aloadNF dJ0_getBytes_840e7_8 rfl rfl ?_
    refine kk_strV fs_RJ0_9 dJ0_getBytes_840e7_9 ?_
    refine kk_iconst dJ0_getBytes_840e7_12 ?_
    refine kk_aloadN dJ0_getBytes_840e7_13 rfl rfl ?_
    refine kk_iloadN dJ0_getBytes_840e7_14 rfl rfl ?_
    refine kk_iloadN dJ0_getBytes_840e7_15 rfl rfl ?_
    refine kk_ishl dJ0_getBytes_840e7_16 ?_
    refine kj_top (b := ((n : Nat) : Int)) (zshl_0 (by first | assumption | (unfold zr at *; omega))) ?_
    refine kk_aloadNF dJ0_getBytes_840e7_17 rfl rfl ?_
    refine kk_strV fs_RJ0_9 dJ0_getBytes_840e7_18 ?_
    refine kk_strL dJ0_getBytes_840e7_21 ?_
    refine kk_copyT (n := (zslen.getD j 0)) (dp := n) rfl hF (by omega) (by omega) (by omega) (by omega) (by omega) hb aw_RJ0_212 (Nat.le_of_ble_eq_true rfl) ⟨Nat.le_of_ble_eq_true rfl, Nat.le_trans nfw_34 (Nat.le_of_ble_eq_true rfl)⟩ dJ0_getBytes_840e7_22 (fun E22 z22 e22 k22 => ?_)
    refine kk_goto (tgt := 43) dJ0_getBytes_840e7_25 (by decide) ?_
    refine kk_vret rfl dJ0_getBytes_840e7_43 ?_ ?_ ?_ ?_
    · exact ⟨e22, k22⟩
    · omega
    · omega
    · omega
set_option maxRecDepth 20000 in
set_option maxHeartbeats 2000000 in
theorem kInfl {l : Launch} {w : zW} (hfl : l.stackTraces = false) {E : List va_E} {a b j : Nat} {k : Int} (hA : E[a]? = some (.inr (10, [.ref (zB w + b), .int (Int32.ofInt 0), .int (Int32.ofInt 0), .int (Int32.ofInt k)]))) : kSp l w mJ5_inflateIfNeededFor_a7421 1 0 0 [zV0 (zB w + a), zf 100 j] E (none) (fun E' => E' = E) := by
  refine kk_enter hfl (by decide) rfl false (fun q => absurd q (by decide)) 0 rfl ?_
  show zK l w mJ5_inflateIfNeededFor_a7421 _ false 0 [zV0 (zB w + a), zf 100 j] [] 0 0 E
  refine kk_compact fs_RJ5_18 dJ5_inflateIfNeededFor_a7421_0 ?_
  refine kk_if_eq (tgt := 21) (by first | assumption | (unfold zr at *; omega)) dJ5_inflateIfNeededFor_a7421_3 (by decide) (fun h3 => ?_) (fun h3 => ?_)
  · exact absurd h3 (by decide)
  · refine kk_aloadN dJ5_inflateIfNeededFor_a7421_6 rfl rfl ?_
    refine kk_getf (v := zi 0) rfl kf_RJ5_22 hA rfl trivial dJ5_inflateIfNeededFor_a7421_7 ?_
    refine kk_aloadNF dJ5_inflateIfNeededFor_a7421_10 rfl rfl ?_
    refine kk_callT [] (kCoder hfl ) rfl dJ5_inflateIfNeededFor_a7421_11 cw_RJ5_40 okJ0_coder_7d493 rfl (Nat.le_of_ble_eq_true rfl) ⟨Nat.le_of_ble_eq_true rfl, Nat.le_of_ble_eq_true rfl, by show _ ≤ _; simp only [kM, kRm]; omega, by show _ ≤ _; simp only [kM, kRm]; omega⟩ (fun _ => rfl) (fun x q => by cases q; trivial) (fun E11 q11 _ => ?_)
    rw [q11]
    refine kk_icmp_eq (tgt := 21) (by first | assumption | (unfold zr at *; omega)) (by first | assumption | (unfold zr at *; omega)) dJ5_inflateIfNeededFor_a7421_14 (by decide) (fun h14 => ?_) (fun h14 => ?_)
    · refine kk_vret rfl dJ5_inflateIfNeededFor_a7421_21 ?_ ?_ ?_ ?_
      · rfl
      · omega
      · omega
      · omega
    · exact absurd h14 (by decide)
set_option maxRecDepth 20000 in
set_option maxHeartbeats 2000000 in
theorem kPut {l : Launch} {w : zW} (hfl : l.stackTraces = false) {E : List va_E} {a b m n j : Nat} {f : Nat → Int32} {k : Int} (hA : E[a]? = some (.inr (10, [.ref (zB w + b), .int (Int32.ofInt 0), .int (Int32.ofInt 0), .int (Int32.ofInt k)]))) (hF : E[b]? = some (.inl (zA w 1, m, .inl f))) (hby : kBy f) (hb : kBy (fun i => (zsbyt.getD j []).getD i 0)) (hr : n + zslen.getD j 0 ≤ m ∧ m ≤ 60000) : kSp l w mJ5_putStringAt_47b60 4 0 0 [zV0 (zB w + a), zi ((n : Nat) : Int), zf 100 j] E (none) (fun E' => E'[b]? = some (.inl (zA w 1, m, .inl (va_cpy (fun i => (zsbyt.getD j []).getD i 0) f 0 n (zslen.getD j 0)))) ∧ (∀ i, i ≠ b → E'[i]? = E[i]?)) := by
  refine kk_enter hfl (by decide) rfl false (fun q => absurd q (by decide)) 0 rfl ?_
  show zK l w mJ5_putStringAt_47b60 _ false 0 [zV0 (zB w + a), zi ((n : Nat) : Int), zf 100 j] [] 0 0 E
  have hb1 := (List.getElem?_eq_some_iff.mp hF).1
  refine kk_aloadN dJ5_putStringAt_47b60_0 rfl rfl ?_
  refine kk_aloadNF dJ5_putStringAt_47b60_1 rfl rfl ?_
  refine kk_callU [zf 100 j] (kInfl hfl (by first | assumption | omega)) rfl hA dJ5_putStringAt_47b60_2 ck_RJ5_397 okJ5_inflateIfNeededFor_a7421 rfl (Nat.le_of_ble_eq_true rfl) ⟨Nat.le_of_ble_eq_true rfl, Nat.le_of_ble_eq_true rfl, by show _ ≤ _; simp only [kM, kRm]; omega, by show _ ≤ _; simp only [kM, kRm]; omega⟩ (fun _ => rfl) (fun x q => by cases q) (fun E2 q2 _ => ?_)
  rw [q2]
  refine kk_aloadNF dJ5_putStringAt_47b60_5 rfl rfl ?_
  refine kk_aloadN dJ5_putStringAt_47b60_6 rfl rfl ?_
  refine kk_getf (v := zV0 (zB w + b)) rfl kf_RJ5_15 hA rfl trivial dJ5_putStringAt_47b60_7 ?_
  refine kk_iloadN dJ5_putStringAt_47b60_10 rfl rfl ?_
  refine kk_aloadN dJ5_putStringAt_47b60_11 rfl rfl ?_
  refine kk_getf (v := zi 0) rfl kf_RJ5_22 hA rfl trivial dJ5_putStringAt_47b60_12 ?_
  refine kk_callT [zV0 (zB w + b), zi ((n : Nat) : Int), zi 0] (kGetB hfl (by first | assumption | omega) (by first | assumption | omega) (by first | assumption | omega) (by first | assumption | omega)) rfl dJ5_putStringAt_47b60_15 cw_RJ5_399 okJ0_getBytes_840e7 rfl (Nat.le_of_ble_eq_true rfl) ⟨Nat.le_of_ble_eq_true rfl, Nat.le_of_ble_eq_true rfl, by show _ ≤ _; simp only [kM, kRm]; omega, by show _ ≤ _; simp only [kM, kRm]; omega⟩ (fun _ => rfl) (fun x q => by cases q) (fun E15 q15 z15 => ?_)
  obtain ⟨e15, k15⟩ := q15
  have f15_0 := (k15 _ (knq_ob hA hF)).trans hA
  refine kk_vret rfl dJ5_putStringAt_47b60_18 ?_ ?_ ?_ ?_
  · exact ⟨e15, k15⟩
  · omega
  · omega
  · omega
set_option maxRecDepth 20000 in
set_option maxHeartbeats 2000000 in
theorem kAppS0 {l : Launch} {w : zW} (hfl : l.stackTraces = false) {E : List va_E} {a b m : Nat} {L : List Int} {K : List Int} {j : Nat} (hB : BS w E a b m L) (hj : zslen.getD j 0 = K.length) (hK : ∀ i, i < K.length → (zsbyt.getD j []).getD i 0 = Int32.ofInt (K.getD i 0)) (hb : kBy (fun i => (zsbyt.getD j []).getD i 0)) (hq : L.length + K.length ≤ 600 ∧ m ≤ 1300) : kSp l w mJ5_append_cf1ce 5 (kn (L.length + K.length) m) (kcp (L.length + K.length) m) [zV0 (zB w + a), zf 100 j] E (some (zV0 (zB w + a))) (fun E' => BS w E' a (kbx E b (L.length + K.length) m) (kcp (L.length + K.length) m) (L ++ K) ∧ ∀ j, j < E.length → j ≠ a → j ≠ b → E'[j]? = E[j]?) := by
  refine kk_enter hfl (by decide) rfl false (fun q => absurd q (by decide)) 1 rfl ?_
  show zK l w mJ5_append_cf1ce _ false 0 [zV0 (zB w + a), zf 100 j, zu] [] 0 0 E
  obtain ⟨hA, f, hF, hby, hf, hnm⟩ := id hB
  refine kk_aloadNF dJ5_append_cf1ce_0 rfl rfl ?_
  refine kk_ifnn (tgt := 9) (x := 0) rfl dJ5_append_cf1ce_1 (by decide) ?_
  refine kk_aloadNF dJ5_append_cf1ce_9 rfl rfl ?_
  refine kk_callT [] (kSLen hfl (by first | assumption | omega)) rfl dJ5_append_cf1ce_10 cw_RJ5_32 okJ0_length_8abf5 rfl (Nat.le_of_ble_eq_true rfl) ⟨Nat.le_of_ble_eq_true rfl, Nat.le_of_ble_eq_true rfl, by show _ ≤ _; simp only [kM, kRm]; omega, by show _ ≤ _; simp only [kM, kRm]; omega⟩ (fun _ => rfl) (fun x q => by cases q; trivial) (fun E10 q10 _ => ?_)
  rw [q10]
  refine kj_istoreN [zV0 (zB w + a), zf 100 j, zi ((zslen.getD j 0 : Nat) : Int)] dJ5_append_cf1ce_13 rfl (Nat.le_of_ble_eq_true rfl) (Nat.le_of_ble_eq_true rfl) rfl rfl ?_
  refine kk_aloadN dJ5_append_cf1ce_14 rfl rfl ?_
  refine kk_aloadN dJ5_append_cf1ce_15 rfl rfl ?_
  refine kk_getf (v := zi ((L.length : Nat) : Int)) rfl kf_RJ5_79 hA rfl trivial dJ5_append_cf1ce_16 ?_
  refine kk_iloadN dJ5_append_cf1ce_19 rfl rfl ?_
  refine kk_iadd dJ5_append_cf1ce_20 ?_
  refine kj_top (b := ((L.length + K.length : Nat) : Int)) (by omega) ?_
  refine kk_callU [zi ((L.length + K.length : Nat) : Int)] (kEns hfl (by first | assumption | omega) (by first | assumption | omega)) rfl hA dJ5_append_cf1ce_21 ck_RJ5_100 okJ5_ensureCapacityInternal_d00df rfl (Nat.le_of_ble_eq_true rfl) ⟨Nat.le_of_ble_eq_true rfl, Nat.le_of_ble_eq_true rfl, by show _ ≤ _; simp only [kM, kRm]; omega, by show _ ≤ _; simp only [kM, kRm]; omega⟩ (fun _ => rfl) (fun x q => by cases q) (fun E21 q21 z21 => ?_)
  obtain ⟨hB21, hk21⟩ := q21
  obtain ⟨hA21, f21, hF21, hby21, hf21, hnm21⟩ := id hB21
  have hcp := kcp_ge (L.length + K.length) m
  have hcl := kcp_le (q := (L.length + K.length)) (m := m) (by omega) (by omega)
  refine kk_aloadN dJ5_append_cf1ce_24 rfl rfl ?_
  refine kk_aloadN dJ5_append_cf1ce_25 rfl rfl ?_
  refine kk_getf (v := zi ((L.length : Nat) : Int)) rfl kf_RJ5_79 hA21 rfl trivial dJ5_append_cf1ce_26 ?_
  refine kk_aloadNF dJ5_append_cf1ce_29 rfl rfl ?_
  refine kk_callU [zi ((L.length : Nat) : Int), zf 100 j] (kPut hfl hA21 hF21 hby21 (by first | assumption | omega) (by first | assumption | omega)) rfl hA21 dJ5_append_cf1ce_30 ck_RJ5_208 okJ5_putStringAt_47b60 rfl (Nat.le_of_ble_eq_true rfl) ⟨Nat.le_of_ble_eq_true rfl, Nat.le_of_ble_eq_true rfl, by show _ ≤ _; simp only [kM, kRm]; omega, by show _ ≤ _; simp only [kM, kRm]; omega⟩ (fun q => kne hA21 q) (fun x q => by cases q) (fun E30 q30 z30 => ?_)
  obtain ⟨e30, k30⟩ := q30
  have f30_0 := (k30 _ (knq_ob hA21 hF21)).trans hA21
  refine kk_aloadN dJ5_append_cf1ce_33 rfl rfl ?_
  refine kk_dup rfl dJ5_append_cf1ce_34 ?_
  refine kk_getf (v := zi ((L.length : Nat) : Int)) rfl kf_RJ5_79 f30_0 rfl trivial dJ5_append_cf1ce_35 ?_
  refine kk_iloadN dJ5_append_cf1ce_38 rfl rfl ?_
  refine kk_iadd dJ5_append_cf1ce_39 ?_
  refine kk_putf (ty := .int) rfl kf_RJ5_79 f30_0 (Nat.le_of_ble_eq_true rfl) (fun Cn T N q => by cases q; exact ⟨rfl, Or.inl rfl⟩) rfl rfl dJ5_append_cf1ce_40 (fun E40 z40 e40 k40 => ?_)
  have f40_1 := (k40 _ (knq_bo e30 f30_0)).trans e30
  refine kk_aloadN dJ5_append_cf1ce_43 rfl rfl ?_
  refine kk_aret rfl (by first | exact Or.inl ⟨_, rfl⟩ | exact Or.inr ⟨_, rfl⟩) dJ5_append_cf1ce_44 ?_ ?_ ?_ ?_
  · exact ⟨BS_app e40 (by omega) f40_1 (kBy_c hb hby21) (fun i hi => (cpy_lo hi).trans (hf21 i hi)) (fun i hi => (cpy_hi (by omega)).trans (hK i hi)) (by omega), (fun j h1 h2 h3 => (k40 j h2).trans ((k30 j (kbx_ne h1 h3)).trans (hk21 j h1 h2)))⟩
  · omega
  · omega
  · omega
set_option maxRecDepth 20000 in
set_option maxHeartbeats 2000000 in
theorem kAppS {l : Launch} {w : zW} (hfl : l.stackTraces = false) {E : List va_E} {a b m : Nat} {L : List Int} {K : List Int} {j : Nat} (hB : BS w E a b m L) (hj : zslen.getD j 0 = K.length) (hK : ∀ i, i < K.length → (zsbyt.getD j []).getD i 0 = Int32.ofInt (K.getD i 0)) (hb : kBy (fun i => (zsbyt.getD j []).getD i 0)) (hq : L.length + K.length ≤ 600 ∧ m ≤ 1300) : kSp l w mJ4_append_15ec4 6 (kn (L.length + K.length) m) (kcp (L.length + K.length) m) [zV0 (zB w + a), zf 100 j] E (some (zV0 (zB w + a))) (fun E' => BS w E' a (kbx E b (L.length + K.length) m) (kcp (L.length + K.length) m) (L ++ K) ∧ ∀ j, j < E.length → j ≠ a → j ≠ b → E'[j]? = E[j]?) := by
  refine kk_enter hfl (by decide) rfl false (fun q => absurd q (by decide)) 0 rfl ?_
  show zK l w mJ4_append_15ec4 _ false 0 [zV0 (zB w + a), zf 100 j] [] 0 0 E
  obtain ⟨hA, f, hF, hby, hf, hnm⟩ := id hB
  refine kk_aloadN dJ4_append_15ec4_0 rfl rfl ?_
  refine kk_aloadNF dJ4_append_15ec4_1 rfl rfl ?_
  refine kk_callSU [zf 100 j] (kAppS0 hfl (by first | assumption | omega) (by first | assumption | omega) (by first | assumption | omega) (by first | assumption | omega) (by first | assumption | omega)) rfl hA dJ4_append_15ec4_2 ck_RJ4_29 (by decide) okJ5_append_cf1ce rfl (Nat.le_of_ble_eq_true rfl) ⟨Nat.le_of_ble_eq_true rfl, Nat.le_of_ble_eq_true rfl, by show _ ≤ _; simp only [kM, kRm]; omega, by show _ ≤ _; simp only [kM, kRm]; omega⟩ (fun _ => rfl) (fun x q => by cases q; trivial) (fun E2 q2 z2 => ?_)
  refine kk_pop rfl dJ4_append_15ec4_5 ?_
  refine kk_aloadN dJ4_append_15ec4_6 rfl rfl ?_
  refine kk_aret rfl (by first | exact Or.inl ⟨_, rfl⟩ | exact Or.inr ⟨_, rfl⟩) dJ4_append_15ec4_7 ?_ ?_ ?_ ?_
  · exact q2
  · omega
  · omega
  · omega
set_option maxRecDepth 20000 in
set_option maxHeartbeats 2000000 in
theorem kSz1 {l : Launch} {w : zW} (hfl : l.stackTraces = false) {E : List va_E} {v : Int} (hv : 0 ≤ v ∧ v < 10) : kSp l w mJ6_stringSize_0f7a4 0 0 0 [zi v] E (some (zi 1)) (fun E' => E' = E) := by
  refine kk_enter hfl (by decide) rfl false (fun q => absurd q (by decide)) 3 rfl ?_
  show zK l w mJ6_stringSize_0f7a4 _ false 0 [zi v, zu, zu, zu] [] 0 0 E
  refine kk_iconst dJ6_stringSize_0f7a4_0 ?_
  refine kj_istoreN [zi v, zi 1, zu, zu] dJ6_stringSize_0f7a4_1 rfl (Nat.le_of_ble_eq_true rfl) (Nat.le_of_ble_eq_true rfl) rfl rfl ?_
  refine kk_iloadN dJ6_stringSize_0f7a4_2 rfl rfl ?_
  refine kk_if_lt (tgt := 11) (by first | assumption | (unfold zr at *; omega)) dJ6_stringSize_0f7a4_3 (by decide) (fun h3 => ?_) (fun h3 => ?_)
  · exfalso; omega
  · refine kk_iconst dJ6_stringSize_0f7a4_6 ?_
    refine kj_istoreN [zi v, zi 0, zu, zu] dJ6_stringSize_0f7a4_7 rfl (Nat.le_of_ble_eq_true rfl) (Nat.le_of_ble_eq_true rfl) rfl rfl ?_
    refine kk_iloadN dJ6_stringSize_0f7a4_8 rfl rfl ?_
    refine kk_ineg dJ6_stringSize_0f7a4_9 ?_
    refine kj_istoreN [zi (-v), zi 0, zu, zu] dJ6_stringSize_0f7a4_10 rfl (Nat.le_of_ble_eq_true rfl) (Nat.le_of_ble_eq_true rfl) rfl rfl ?_
    refine kk_bipush dJ6_stringSize_0f7a4_11 rfl ?_
    refine kj_istoreN [zi (-v), zi 0, zi (-10), zu] dJ6_stringSize_0f7a4_13 rfl (Nat.le_of_ble_eq_true rfl) (Nat.le_of_ble_eq_true rfl) rfl rfl ?_
    refine kk_iconst dJ6_stringSize_0f7a4_14 ?_
    refine kj_istoreN [zi (-v), zi 0, zi (-10), zi 1] dJ6_stringSize_0f7a4_15 rfl (Nat.le_of_ble_eq_true rfl) (Nat.le_of_ble_eq_true rfl) rfl rfl ?_
    refine kk_iloadN dJ6_stringSize_0f7a4_16 rfl rfl ?_
    refine kk_bipush dJ6_stringSize_0f7a4_17 rfl ?_
    refine kk_icmp_ge (tgt := 42) (by first | assumption | (unfold zr at *; omega)) (by first | assumption | (unfold zr at *; omega)) dJ6_stringSize_0f7a4_19 (by decide) (fun h19 => ?_) (fun h19 => ?_)
    · exact absurd h19 (by decide)
    · refine kk_iloadN dJ6_stringSize_0f7a4_22 rfl rfl ?_
      refine kk_iloadN dJ6_stringSize_0f7a4_23 rfl rfl ?_
      refine kk_icmp_le (tgt := 31) (by first | assumption | (unfold zr at *; omega)) (by first | assumption | (unfold zr at *; omega)) dJ6_stringSize_0f7a4_24 (by decide) (fun h24 => ?_) (fun h24 => ?_)
      · exfalso; omega
      · refine kk_iloadN dJ6_stringSize_0f7a4_27 rfl rfl ?_
        refine kk_iloadN dJ6_stringSize_0f7a4_28 rfl rfl ?_
        refine kk_iadd dJ6_stringSize_0f7a4_29 ?_
        refine kj_top (b := 1) (by decide) ?_
        refine kk_iret rfl rfl dJ6_stringSize_0f7a4_30 ?_ ?_ ?_ ?_
        · rfl
        · omega
        · omega
        · omega
set_option maxRecDepth 20000 in
set_option maxHeartbeats 2000000 in
theorem kSz4 {l : Launch} {w : zW} (hfl : l.stackTraces = false) {E : List va_E} {v : Int} (hv : 1000 ≤ v ∧ v < 10000) : kSp l w mJ6_stringSize_0f7a4 0 0 0 [zi v] E (some (zi 4)) (fun E' => E' = E) := by
  refine kk_enter hfl (by decide) rfl false (fun q => absurd q (by decide)) 3 rfl ?_
  show zK l w mJ6_stringSize_0f7a4 _ false 0 [zi v, zu, zu, zu] [] 0 0 E
  refine kk_iconst dJ6_stringSize_0f7a4_0 ?_
  refine kj_istoreN [zi v, zi 1, zu, zu] dJ6_stringSize_0f7a4_1 rfl (Nat.le_of_ble_eq_true rfl) (Nat.le_of_ble_eq_true rfl) rfl rfl ?_
  refine kk_iloadN dJ6_stringSize_0f7a4_2 rfl rfl ?_
  refine kk_if_lt (tgt := 11) (by first | assumption | (unfold zr at *; omega)) dJ6_stringSize_0f7a4_3 (by decide) (fun h3 => ?_) (fun h3 => ?_)
  · exfalso; omega
  · refine kk_iconst dJ6_stringSize_0f7a4_6 ?_
    refine kj_istoreN [zi v, zi 0, zu, zu] dJ6_stringSize_0f7a4_7 rfl (Nat.le_of_ble_eq_true rfl) (Nat.le_of_ble_eq_true rfl) rfl rfl ?_
    refine kk_iloadN dJ6_stringSize_0f7a4_8 rfl rfl ?_
    refine kk_ineg dJ6_stringSize_0f7a4_9 ?_
    refine kj_istoreN [zi (-v), zi 0, zu, zu] dJ6_stringSize_0f7a4_10 rfl (Nat.le_of_ble_eq_true rfl) (Nat.le_of_ble_eq_true rfl) rfl rfl ?_
    refine kk_bipush dJ6_stringSize_0f7a4_11 rfl ?_
    refine kj_istoreN [zi (-v), zi 0, zi (-10), zu] dJ6_stringSize_0f7a4_13 rfl (Nat.le_of_ble_eq_true rfl) (Nat.le_of_ble_eq_true rfl) rfl rfl ?_
    refine kk_iconst dJ6_stringSize_0f7a4_14 ?_
    refine kj_istoreN [zi (-v), zi 0, zi (-10), zi 1] dJ6_stringSize_0f7a4_15 rfl (Nat.le_of_ble_eq_true rfl) (Nat.le_of_ble_eq_true rfl) rfl rfl ?_
    refine kk_iloadN dJ6_stringSize_0f7a4_16 rfl rfl ?_
    refine kk_bipush dJ6_stringSize_0f7a4_17 rfl ?_
    refine kk_icmp_ge (tgt := 42) (by first | assumption | (unfold zr at *; omega)) (by first | assumption | (unfold zr at *; omega)) dJ6_stringSize_0f7a4_19 (by decide) (fun h19 => ?_) (fun h19 => ?_)
    · exact absurd h19 (by decide)
    · refine kk_iloadN dJ6_stringSize_0f7a4_22 rfl rfl ?_
      refine kk_iloadN dJ6_stringSize_0f7a4_23 rfl rfl ?_
      refine kk_icmp_le (tgt := 31) (by first | assumption | (unfold zr at *; omega)) (by first | assumption | (unfold zr at *; omega)) dJ6_stringSize_0f7a4_24 (by decide) (fun h24 => ?_) (fun h24 => ?_)
      · refine kk_bipush dJ6_stringSize_0f7a4_31 rfl ?_
        refine kk_iloadN dJ6_stringSize_0f7a4_33 rfl rfl ?_
        refine kk_imul dJ6_stringSize_0f7a4_34 ?_
        refine kj_top (b := -100) (by decide) ?_
        refine kj_istoreN [zi (-v), zi 0, zi (-100), zi 1] dJ6_stringSize_0f7a4_35 rfl (Nat.le_of_ble_eq_true rfl) (Nat.le_of_ble_eq_true rfl) rfl rfl ?_
        refine kj_iinc (b := 2) [zi (-v), zi 0, zi (-100), zi 2] dJ6_stringSize_0f7a4_36 rfl (by omega) (Nat.le_of_ble_eq_true rfl) rfl rfl ?_
        refine kk_goto (tgt := 16) dJ6_stringSize_0f7a4_39 (by decide) ?_
        refine kk_iloadN dJ6_stringSize_0f7a4_16 rfl rfl ?_
        refine kk_bipush dJ6_stringSize_0f7a4_17 rfl ?_
        refine kk_icmp_ge (tgt := 42) (by first | assumption | (unfold zr at *; omega)) (by first | assumption | (unfold zr at *; omega)) dJ6_stringSize_0f7a4_19 (by decide) (fun h19 => ?_) (fun h19 => ?_)
        · exact absurd h19 (by decide)
        · refine kk_iloadN dJ6_stringSize_0f7a4_22 rfl rfl ?_
          refine kk_iloadN dJ6_stringSize_0f7a4_23 rfl rfl ?_
          refine kk_icmp_le (tgt := 31) (by first | assumption | (unfold zr at *; omega)) (by first | assumption | (unfold zr at *; omega)) dJ6_stringSize_0f7a4_24 (by decide) (fun h24 => ?_) (fun h24 => ?_)
          · refine kk_bipush dJ6_stringSize_0f7a4_31 rfl ?_
            refine kk_iloadN dJ6_stringSize_0f7a4_33 rfl rfl ?_
            refine kk_imul dJ6_stringSize_0f7a4_34 ?_
            refine kj_top (b := -1000) (by decide) ?_
            refine kj_istoreN [zi (-v), zi 0, zi (-1000), zi 2] dJ6_stringSize_0f7a4_35 rfl (Nat.le_of_ble_eq_true rfl) (Nat.le_of_ble_eq_true rfl) rfl rfl ?_
            refine kj_iinc (b := 3) [zi (-v), zi 0, zi (-1000), zi 3] dJ6_stringSize_0f7a4_36 rfl (by omega) (Nat.le_of_ble_eq_true rfl) rfl rfl ?_
            refine kk_goto (tgt := 16) dJ6_stringSize_0f7a4_39 (by decide) ?_
            refine kk_iloadN dJ6_stringSize_0f7a4_16 rfl rfl ?_
            refine kk_bipush dJ6_stringSize_0f7a4_17 rfl ?_
            refine kk_icmp_ge (tgt := 42) (by first | assumption | (unfold zr at *; omega)) (by first | assumption | (unfold zr at *; omega)) dJ6_stringSize_0f7a4_19 (by decide) (fun h19 => ?_) (fun h19 => ?_)
            · exact absurd h19 (by decide)
            · refine kk_iloadN dJ6_stringSize_0f7a4_22 rfl rfl ?_
              refine kk_iloadN dJ6_stringSize_0f7a4_23 rfl rfl ?_
              refine kk_icmp_le (tgt := 31) (by first | assumption | (unfold zr at *; omega)) (by first | assumption | (unfold zr at *; omega)) dJ6_stringSize_0f7a4_24 (by decide) (fun h24 => ?_) (fun h24 => ?_)
              · refine kk_bipush dJ6_stringSize_0f7a4_31 rfl ?_
                refine kk_iloadN dJ6_stringSize_0f7a4_33 rfl rfl ?_
                refine kk_imul dJ6_stringSize_0f7a4_34 ?_
                refine kj_top (b := -10000) (by decide) ?_
                refine kj_istoreN [zi (-v), zi 0, zi (-10000), zi 3] dJ6_stringSize_0f7a4_35 rfl (Nat.le_of_ble_eq_true rfl) (Nat.le_of_ble_eq_true rfl) rfl rfl ?_
                refine kj_iinc (b := 4) [zi (-v), zi 0, zi (-10000), zi 4] dJ6_stringSize_0f7a4_36 rfl (by omega) (Nat.le_of_ble_eq_true rfl) rfl rfl ?_
                refine kk_goto (tgt := 16) dJ6_stringSize_0f7a4_39 (by decide) ?_
                refine kk_iloadN dJ6_stringSize_0f7a4_16 rfl rfl ?_
                refine kk_bipush dJ6_stringSize_0f7a4_17 rfl ?_
                refine kk_icmp_ge (tgt := 42) (by first | assumption | (unfold zr at *; omega)) (by first | assumption | (unfold zr at *; omega)) dJ6_stringSize_0f7a4_19 (by decide) (fun h19 => ?_) (fun h19 => ?_)
                · exact absurd h19 (by decide)
                · refine kk_iloadN dJ6_stringSize_0f7a4_22 rfl rfl ?_
                  refine kk_iloadN dJ6_stringSize_0f7a4_23 rfl rfl ?_
                  refine kk_icmp_le (tgt := 31) (by first | assumption | (unfold zr at *; omega)) (by first | assumption | (unfold zr at *; omega)) dJ6_stringSize_0f7a4_24 (by decide) (fun h24 => ?_) (fun h24 => ?_)
                  · exfalso; omega
                  · refine kk_iloadN dJ6_stringSize_0f7a4_27 rfl rfl ?_
                    refine kk_iloadN dJ6_stringSize_0f7a4_28 rfl rfl ?_
                    refine kk_iadd dJ6_stringSize_0f7a4_29 ?_
                    refine kj_top (b := 4) (by decide) ?_
                    refine kk_iret rfl rfl dJ6_stringSize_0f7a4_30 ?_ ?_ ?_ ?_
                    · rfl
                    · omega
                    · omega
                    · omega
              · exfalso; omega
          · exfalso; omega
      · exfalso; omega
set_option maxRecDepth 20000 in
set_option maxHeartbeats 2000000 in
theorem kGC1 {l : Launch} {w : zW} (hfl : l.stackTraces = false) {E : List va_E} {b m n : Nat} {f : Nat → Int32} {v : Int} (hF : E[b]? = some (.inl (zA w 1, m, .inl f))) (hby : kBy f) (hr : n ≤ m ∧ m ≤ 60000) (hn : 1 ≤ n) (hv : 0 ≤ v ∧ v < 10) : kSp l w mJ6_getChars_ba4f3 0 0 0 [zi v, zi ((n : Nat) : Int), zV0 (zB w + b)] E (some (zi ((n - 1 : Nat) : Int))) (fun E' => E'[b]? = some (.inl (zA w 1, m, .inl (upd f (n - 1) (Int32.ofInt (48 + v % 10))))) ∧ (∀ i, i ≠ b → E'[i]? = E[i]?)) := by
  refine kk_enter hfl (by decide) rfl false (fun q => absurd q (by decide)) 4 rfl ?_
  show zK l w mJ6_getChars_ba4f3 _ false 0 [zi v, zi ((n : Nat) : Int), zV0 (zB w + b), zu, zu, zu, zu] [] 0 0 E
  have hb1 := (List.getElem?_eq_some_iff.mp hF).1
  refine kk_iloadN dJ6_getChars_ba4f3_0 rfl rfl ?_
  refine kj_istore [zi v, zi ((n : Nat) : Int), zV0 (zB w + b), zu, zu, zi ((n : Nat) : Int), zu] dJ6_getChars_ba4f3_1 (Nat.le_of_ble_eq_true rfl) (Nat.le_of_ble_eq_true rfl) rfl rfl ?_
  refine kk_iloadN dJ6_getChars_ba4f3_3 rfl rfl ?_
  refine kk_if_ge (tgt := 11) (by first | assumption | (unfold zr at *; omega)) dJ6_getChars_ba4f3_4 (by decide) (fun h4 => ?_) (fun h4 => ?_)
  · refine kk_iconst dJ6_getChars_ba4f3_11 ?_
    refine kj_istore [zi v, zi ((n : Nat) : Int), zV0 (zB w + b), zu, zu, zi ((n : Nat) : Int), zi 0] dJ6_getChars_ba4f3_12 (Nat.le_of_ble_eq_true rfl) (Nat.le_of_ble_eq_true rfl) rfl rfl ?_
    refine kk_iload dJ6_getChars_ba4f3_14 rfl ?_
    refine kk_if_ne (tgt := 22) (by first | assumption | (unfold zr at *; omega)) dJ6_getChars_ba4f3_16 (by decide) (fun h16 => ?_) (fun h16 => ?_)
    · exact absurd h16 (by decide)
    · refine kk_iloadN dJ6_getChars_ba4f3_19 rfl rfl ?_
      refine kk_ineg dJ6_getChars_ba4f3_20 ?_
      refine kj_istoreN [zi (-v), zi ((n : Nat) : Int), zV0 (zB w + b), zu, zu, zi ((n : Nat) : Int), zi 0] dJ6_getChars_ba4f3_21 rfl (Nat.le_of_ble_eq_true rfl) (Nat.le_of_ble_eq_true rfl) rfl rfl ?_
      refine kk_iloadN dJ6_getChars_ba4f3_22 rfl rfl ?_
      refine kk_bipush dJ6_getChars_ba4f3_23 rfl ?_
      refine kk_icmp_gt (tgt := 72) (by first | assumption | (unfold zr at *; omega)) (by first | assumption | (unfold zr at *; omega)) dJ6_getChars_ba4f3_25 (by decide) (fun h25 => ?_) (fun h25 => ?_)
      · refine kk_aloadN dJ6_getChars_ba4f3_72 rfl rfl ?_
        refine kj_iinc (b := ((n - 1 : Nat) : Int)) [zi (-v), zi ((n : Nat) : Int), zV0 (zB w + b), zu, zu, zi ((n - 1 : Nat) : Int), zi 0] dJ6_getChars_ba4f3_73 rfl (by omega) (Nat.le_of_ble_eq_true rfl) rfl rfl ?_
        refine kk_iload dJ6_getChars_ba4f3_76 rfl ?_
        refine kk_dig1 fs_RJ6_83 dJ6_getChars_ba4f3_78 ?_
        refine kk_iloadN dJ6_getChars_ba4f3_81 rfl rfl ?_
        refine kk_ineg dJ6_getChars_ba4f3_82 ?_
        refine kj_top (b := v) (by omega) ?_
        refine kk_dgl1 (by omega) (by omega) dJ6_getChars_ba4f3_83 ?_
        refine kk_bast (i := n - 1) rfl hF (by omega) (by omega) (by omega) (by omega) (by omega) dJ6_getChars_ba4f3_84 (fun E84 z84 e84 k84 => ?_)
        refine kk_iloadN dJ6_getChars_ba4f3_85 rfl rfl ?_
        refine kk_bipush dJ6_getChars_ba4f3_86 rfl ?_
        refine kk_icmp_ge (tgt := 104) (by first | assumption | (unfold zr at *; omega)) (by first | assumption | (unfold zr at *; omega)) dJ6_getChars_ba4f3_88 (by decide) (fun h88 => ?_) (fun h88 => ?_)
        · refine kk_iload dJ6_getChars_ba4f3_104 rfl ?_
          refine kk_if_eq (tgt := 118) (by first | assumption | (unfold zr at *; omega)) dJ6_getChars_ba4f3_106 (by decide) (fun h106 => ?_) (fun h106 => ?_)
          · refine kk_iload dJ6_getChars_ba4f3_118 rfl ?_
            refine kk_iret rfl rfl dJ6_getChars_ba4f3_120 ?_ ?_ ?_ ?_
            · exact ⟨e84, k84⟩
            · omega
            · omega
            · omega
          · exact absurd h106 (by decide)
        · exfalso; omega
      · exfalso; omega
  · exfalso; omega
set_option maxRecDepth 20000 in
set_option maxHeartbeats 2000000 in
theorem kGC4 {l : Launch} {w : zW} (hfl : l.stackTraces = false) {E : List va_E} {b m n : Nat} {f : Nat → Int32} {v : Int} (hF : E[b]? = some (.inl (zA w 1, m, .inl f))) (hby : kBy f) (hr : n ≤ m ∧ m ≤ 60000) (hn : 4 ≤ n) (hv : 1000 ≤ v ∧ v < 10000) : kSp l w mJ6_getChars_ba4f3 0 0 0 [zi v, zi ((n : Nat) : Int), zV0 (zB w + b)] E (some (zi ((n - 4 : Nat) : Int))) (fun E' => E'[b]? = some (.inl (zA w 1, m, .inl (upd (upd (upd (upd f (n - 1) (Int32.ofInt (48 + (v % 100) % 10))) (n - 2) (Int32.ofInt (48 + (v % 100) / 10))) (n - 3) (Int32.ofInt (48 + (v / 100) % 10))) (n - 4) (Int32.ofInt (48 + (v / 100) / 10))))) ∧ (∀ i, i ≠ b → E'[i]? = E[i]?)) := by
  refine kk_enter hfl (by decide) rfl false (fun q => absurd q (by decide)) 4 rfl ?_
  show zK l w mJ6_getChars_ba4f3 _ false 0 [zi v, zi ((n : Nat) : Int), zV0 (zB w + b), zu, zu, zu, zu] [] 0 0 E
  have hb1 := (List.getElem?_eq_some_iff.mp hF).1
  refine kk_iloadN dJ6_getChars_ba4f3_0 rfl rfl ?_
  refine kj_istore [zi v, zi ((n : Nat) : Int), zV0 (zB w + b), zu, zu, zi ((n : Nat) : Int), zu] dJ6_getChars_ba4f3_1 (Nat.le_of_ble_eq_true rfl) (Nat.le_of_ble_eq_true rfl) rfl rfl ?_
  refine kk_iloadN dJ6_getChars_ba4f3_3 rfl rfl ?_
  refine kk_if_ge (tgt := 11) (by first | assumption | (unfold zr at *; omega)) dJ6_getChars_ba4f3_4 (by decide) (fun h4 => ?_) (fun h4 => ?_)
  · refine kk_iconst dJ6_getChars_ba4f3_11 ?_
    refine kj_istore [zi v, zi ((n : Nat) : Int), zV0 (zB w + b), zu, zu, zi ((n : Nat) : Int), zi 0] dJ6_getChars_ba4f3_12 (Nat.le_of_ble_eq_true rfl) (Nat.le_of_ble_eq_true rfl) rfl rfl ?_
    refine kk_iload dJ6_getChars_ba4f3_14 rfl ?_
    refine kk_if_ne (tgt := 22) (by first | assumption | (unfold zr at *; omega)) dJ6_getChars_ba4f3_16 (by decide) (fun h16 => ?_) (fun h16 => ?_)
    · exact absurd h16 (by decide)
    · refine kk_iloadN dJ6_getChars_ba4f3_19 rfl rfl ?_
      refine kk_ineg dJ6_getChars_ba4f3_20 ?_
      refine kj_istoreN [zi (-v), zi ((n : Nat) : Int), zV0 (zB w + b), zu, zu, zi ((n : Nat) : Int), zi 0] dJ6_getChars_ba4f3_21 rfl (Nat.le_of_ble_eq_true rfl) (Nat.le_of_ble_eq_true rfl) rfl rfl ?_
      refine kk_iloadN dJ6_getChars_ba4f3_22 rfl rfl ?_
      refine kk_bipush dJ6_getChars_ba4f3_23 rfl ?_
      refine kk_icmp_gt (tgt := 72) (by first | assumption | (unfold zr at *; omega)) (by first | assumption | (unfold zr at *; omega)) dJ6_getChars_ba4f3_25 (by decide) (fun h25 => ?_) (fun h25 => ?_)
      · exfalso; omega
      · refine kk_iloadN dJ6_getChars_ba4f3_28 rfl rfl ?_
        refine kk_bipush dJ6_getChars_ba4f3_29 rfl ?_
        refine kk_tdiv (by first | assumption | (unfold zr at *; omega)) (by omega) (by omega) dJ6_getChars_ba4f3_31 ?_
        refine kj_top (b := -(v / 100)) (k_tdv hv.1) ?_
        refine kj_istoreN [zi (-v), zi ((n : Nat) : Int), zV0 (zB w + b), zi (-(v / 100)), zu, zi ((n : Nat) : Int), zi 0] dJ6_getChars_ba4f3_32 rfl (Nat.le_of_ble_eq_true rfl) (Nat.le_of_ble_eq_true rfl) rfl rfl ?_
        refine kk_iloadN dJ6_getChars_ba4f3_33 rfl rfl ?_
        refine kk_bipush dJ6_getChars_ba4f3_34 rfl ?_
        refine kk_imul dJ6_getChars_ba4f3_36 ?_
        refine kk_iloadN dJ6_getChars_ba4f3_37 rfl rfl ?_
        refine kk_isub dJ6_getChars_ba4f3_38 ?_
        refine kj_top (b := v % 100) (by omega) ?_
        refine kj_istore [zi (-v), zi ((n : Nat) : Int), zV0 (zB w + b), zi (-(v / 100)), zi (v % 100), zi ((n : Nat) : Int), zi 0] dJ6_getChars_ba4f3_39 (Nat.le_of_ble_eq_true rfl) (Nat.le_of_ble_eq_true rfl) rfl rfl ?_
        refine kk_iloadN dJ6_getChars_ba4f3_41 rfl rfl ?_
        refine kj_istoreN [zi (-(v / 100)), zi ((n : Nat) : Int), zV0 (zB w + b), zi (-(v / 100)), zi (v % 100), zi ((n : Nat) : Int), zi 0] dJ6_getChars_ba4f3_42 rfl (Nat.le_of_ble_eq_true rfl) (Nat.le_of_ble_eq_true rfl) rfl rfl ?_
        refine kk_aloadN dJ6_getChars_ba4f3_43 rfl rfl ?_
        refine kj_iinc (b := ((n - 1 : Nat) : Int)) [zi (-(v / 100)), zi ((n : Nat) : Int), zV0 (zB w + b), zi (-(v / 100)), zi (v % 100), zi ((n - 1 : Nat) : Int), zi 0] dJ6_getChars_ba4f3_44 rfl (by omega) (Nat.le_of_ble_eq_true rfl) rfl rfl ?_
        refine kk_iload dJ6_getChars_ba4f3_47 rfl ?_
        refine kk_dig1 fs_RJ6_83 dJ6_getChars_ba4f3_49 ?_
        refine kk_iload dJ6_getChars_ba4f3_52 rfl ?_
        refine kk_dgl1 (by omega) (by omega) dJ6_getChars_ba4f3_54 ?_
        refine kk_bast (i := n - 1) rfl hF (by omega) (by omega) (by omega) (by omega) (by omega) dJ6_getChars_ba4f3_55 (fun E55 z55 e55 k55 => ?_)
        refine kk_aloadN dJ6_getChars_ba4f3_56 rfl rfl ?_
        refine kj_iinc (b := ((n - 2 : Nat) : Int)) [zi (-(v / 100)), zi ((n : Nat) : Int), zV0 (zB w + b), zi (-(v / 100)), zi (v % 100), zi ((n - 2 : Nat) : Int), zi 0] dJ6_getChars_ba4f3_57 rfl (by omega) (Nat.le_of_ble_eq_true rfl) rfl rfl ?_
        refine kk_iload dJ6_getChars_ba4f3_60 rfl ?_
        refine kk_dig2 fs_RJ6_87 dJ6_getChars_ba4f3_62 ?_
        refine kk_iload dJ6_getChars_ba4f3_65 rfl ?_
        refine kk_dgl2 (by omega) (by omega) dJ6_getChars_ba4f3_67 ?_
        refine kk_bast (i := n - 2) rfl e55 (by omega) (by omega) (by omega) (by omega) (by omega) dJ6_getChars_ba4f3_68 (fun E68 z68 e68 k68 => ?_)
        refine kk_goto (tgt := 22) dJ6_getChars_ba4f3_69 (by decide) ?_
        refine kk_iloadN dJ6_getChars_ba4f3_22 rfl rfl ?_
        refine kk_bipush dJ6_getChars_ba4f3_23 rfl ?_
        refine kk_icmp_gt (tgt := 72) (by first | assumption | (unfold zr at *; omega)) (by first | assumption | (unfold zr at *; omega)) dJ6_getChars_ba4f3_25 (by decide) (fun h25 => ?_) (fun h25 => ?_)
        · refine kk_aloadN dJ6_getChars_ba4f3_72 rfl rfl ?_
          refine kj_iinc (b := ((n - 3 : Nat) : Int)) [zi (-(v / 100)), zi ((n : Nat) : Int), zV0 (zB w + b), zi (-(v / 100)), zi (v % 100), zi ((n - 3 : Nat) : Int), zi 0] dJ6_getChars_ba4f3_73 rfl (by omega) (Nat.le_of_ble_eq_true rfl) rfl rfl ?_
          refine kk_iload dJ6_getChars_ba4f3_76 rfl ?_
          refine kk_dig1 fs_RJ6_83 dJ6_getChars_ba4f3_78 ?_
          refine kk_iloadN dJ6_getChars_ba4f3_81 rfl rfl ?_
          refine kk_ineg dJ6_getChars_ba4f3_82 ?_
          refine kj_top (b := v / 100) (by omega) ?_
          refine kk_dgl1 (by omega) (by omega) dJ6_getChars_ba4f3_83 ?_
          refine kk_bast (i := n - 3) rfl e68 (by omega) (by omega) (by omega) (by omega) (by omega) dJ6_getChars_ba4f3_84 (fun E84 z84 e84 k84 => ?_)
          refine kk_iloadN dJ6_getChars_ba4f3_85 rfl rfl ?_
          refine kk_bipush dJ6_getChars_ba4f3_86 rfl ?_
          refine kk_icmp_ge (tgt := 104) (by first | assumption | (unfold zr at *; omega)) (by first | assumption | (unfold zr at *; omega)) dJ6_getChars_ba4f3_88 (by decide) (fun h88 => ?_) (fun h88 => ?_)
          · exfalso; omega
          · refine kk_aloadN dJ6_getChars_ba4f3_91 rfl rfl ?_
            refine kj_iinc (b := ((n - 4 : Nat) : Int)) [zi (-(v / 100)), zi ((n : Nat) : Int), zV0 (zB w + b), zi (-(v / 100)), zi (v % 100), zi ((n - 4 : Nat) : Int), zi 0] dJ6_getChars_ba4f3_92 rfl (by omega) (Nat.le_of_ble_eq_true rfl) rfl rfl ?_
            refine kk_iload dJ6_getChars_ba4f3_95 rfl ?_
            refine kk_dig2 fs_RJ6_87 dJ6_getChars_ba4f3_97 ?_
            refine kk_iloadN dJ6_getChars_ba4f3_100 rfl rfl ?_
            refine kk_ineg dJ6_getChars_ba4f3_101 ?_
            refine kj_top (b := v / 100) (by omega) ?_
            refine kk_dgl2 (by omega) (by omega) dJ6_getChars_ba4f3_102 ?_
            refine kk_bast (i := n - 4) rfl e84 (by omega) (by omega) (by omega) (by omega) (by omega) dJ6_getChars_ba4f3_103 (fun E103 z103 e103 k103 => ?_)
            refine kk_iload dJ6_getChars_ba4f3_104 rfl ?_
            refine kk_if_eq (tgt := 118) (by first | assumption | (unfold zr at *; omega)) dJ6_getChars_ba4f3_106 (by decide) (fun h106 => ?_) (fun h106 => ?_)
            · refine kk_iload dJ6_getChars_ba4f3_118 rfl ?_
              refine kk_iret rfl rfl dJ6_getChars_ba4f3_120 ?_ ?_ ?_ ?_
              · exact ⟨e103, fun i hi => (k103 i hi).trans ((k84 i hi).trans ((k68 i hi).trans (k55 i hi)))⟩
              · omega
              · omega
              · omega
            · exact absurd h106 (by decide)
        · exfalso; omega
  · exfalso; omega
set_option maxRecDepth 20000 in
set_option maxHeartbeats 2000000 in
theorem kAppI0_1 {l : Launch} {w : zW} (hfl : l.stackTraces = false) {E : List va_E} {a b m : Nat} {L : List Int} {v : Int} (hB : BS w E a b m L) (hv : 0 ≤ v ∧ v < 10) (hq : L.length + 1 ≤ 600 ∧ m ≤ 1300) : kSp l w mJ5_append_c97b9 5 (kn (L.length + 1) m) (kcp (L.length + 1) m) [zV0 (zB w + a), zi v] E (some (zV0 (zB w + a))) (fun E' => BS w E' a (kbx E b (L.length + 1) m) (kcp (L.length + 1) m) (L ++ [48 + v % 10]) ∧ ∀ j, j < E.length → j ≠ a → j ≠ b → E'[j]? = E[j]?) := by
  refine kk_enter hfl (by decide) rfl false (fun q => absurd q (by decide)) 2 rfl ?_
  show zK l w mJ5_append_c97b9 _ false 0 [zV0 (zB w + a), zi v, zu, zu] [] 0 0 E
  obtain ⟨hA, f, hF, hby, hf, hnm⟩ := id hB
  refine kk_aloadN dJ5_append_c97b9_0 rfl rfl ?_
  refine kk_getf (v := zi ((L.length : Nat) : Int)) rfl kf_RJ5_79 hA rfl trivial dJ5_append_c97b9_1 ?_
  refine kj_istoreN [zV0 (zB w + a), zi v, zi ((L.length : Nat) : Int), zu] dJ5_append_c97b9_4 rfl (Nat.le_of_ble_eq_true rfl) (Nat.le_of_ble_eq_true rfl) rfl rfl ?_
  refine kk_iloadN dJ5_append_c97b9_5 rfl rfl ?_
  refine kk_iloadN dJ5_append_c97b9_6 rfl rfl ?_
  refine kk_callS [zi v] (kSz1 hfl (by first | assumption | omega)) dJ5_append_c97b9_7 cw_RJ5_245 okJ6_stringSize_0f7a4 rfl (Nat.le_of_ble_eq_true rfl) ⟨Nat.le_of_ble_eq_true rfl, Nat.le_of_ble_eq_true rfl, by show _ ≤ _; simp only [kM, kRm]; omega, by show _ ≤ _; simp only [kM, kRm]; omega⟩ (fun _ => rfl) (fun x q => by cases q; trivial) (fun E7 q7 _ => ?_)
  rw [q7]
  refine kk_iadd dJ5_append_c97b9_10 ?_
  refine kj_top (b := ((L.length + 1 : Nat) : Int)) (by omega) ?_
  refine kj_istoreN [zV0 (zB w + a), zi v, zi ((L.length : Nat) : Int), zi ((L.length + 1 : Nat) : Int)] dJ5_append_c97b9_11 rfl (Nat.le_of_ble_eq_true rfl) (Nat.le_of_ble_eq_true rfl) rfl rfl ?_
  refine kk_aloadN dJ5_append_c97b9_12 rfl rfl ?_
  refine kk_iloadN dJ5_append_c97b9_13 rfl rfl ?_
  refine kk_callU [zi ((L.length + 1 : Nat) : Int)] (kEns hfl (by first | assumption | omega) (by first | assumption | omega)) rfl hA dJ5_append_c97b9_14 ck_RJ5_100 okJ5_ensureCapacityInternal_d00df rfl (Nat.le_of_ble_eq_true rfl) ⟨Nat.le_of_ble_eq_true rfl, Nat.le_of_ble_eq_true rfl, by show _ ≤ _; simp only [kM, kRm]; omega, by show _ ≤ _; simp only [kM, kRm]; omega⟩ (fun _ => rfl) (fun x q => by cases q) (fun E14 q14 z14 => ?_)
  obtain ⟨hB14, hk14⟩ := q14
  obtain ⟨hA14, f14, hF14, hby14, hf14, hnm14⟩ := id hB14
  have hcp := kcp_ge (L.length + 1) m
  have hcl := kcp_le (q := (L.length + 1)) (m := m) (by omega) (by omega)
  refine kk_aloadN dJ5_append_c97b9_17 rfl rfl ?_
  refine kk_callU [] (kIsL hfl (by first | assumption | omega)) rfl hA14 dJ5_append_c97b9_18 ck_RJ5_83 okJ5_isLatin1_aae02 rfl (Nat.le_of_ble_eq_true rfl) ⟨Nat.le_of_ble_eq_true rfl, Nat.le_of_ble_eq_true rfl, by show _ ≤ _; simp only [kM, kRm]; omega, by show _ ≤ _; simp only [kM, kRm]; omega⟩ (fun q => kne hA14 q) (fun x q => by cases q; trivial) (fun E18 q18 _ => ?_)
  rw [q18]
  refine kk_if_eq (tgt := 37) (by first | assumption | (unfold zr at *; omega)) dJ5_append_c97b9_21 (by decide) (fun h21 => ?_) (fun h21 => ?_)
  · exact absurd h21 (by decide)
  · refine kk_iloadN dJ5_append_c97b9_24 rfl rfl ?_
    refine kk_iloadN dJ5_append_c97b9_25 rfl rfl ?_
    refine kk_aloadN dJ5_append_c97b9_26 rfl rfl ?_
    refine kk_getf (v := zV0 (zB w + (kbx E b (L.length + 1) m))) rfl kf_RJ5_15 hA14 rfl trivial dJ5_append_c97b9_27 ?_
    refine kk_callS [zi v, zi ((L.length + 1 : Nat) : Int), zV0 (zB w + (kbx E b (L.length + 1) m))] (kGC1 hfl hF14 hby14 (by first | assumption | omega) (by first | assumption | omega) (by first | assumption | omega)) dJ5_append_c97b9_30 cw_RJ5_248 okJ6_getChars_ba4f3 rfl (Nat.le_of_ble_eq_true rfl) ⟨Nat.le_of_ble_eq_true rfl, Nat.le_of_ble_eq_true rfl, by show _ ≤ _; simp only [kM, kRm]; omega, by show _ ≤ _; simp only [kM, kRm]; omega⟩ (fun q => kne hA14 q) (fun x q => by cases q; trivial) (fun E30 q30 z30 => ?_)
    obtain ⟨e30, k30⟩ := q30
    have f30_0 := (k30 _ (knq_ob hA14 hF14)).trans hA14
    refine kk_pop rfl dJ5_append_c97b9_33 ?_
    refine kk_goto (tgt := 48) dJ5_append_c97b9_34 (by decide) ?_
    refine kk_aloadN dJ5_append_c97b9_48 rfl rfl ?_
    refine kk_iloadN dJ5_append_c97b9_49 rfl rfl ?_
    refine kk_putf (ty := .int) rfl kf_RJ5_79 f30_0 (Nat.le_of_ble_eq_true rfl) (fun Cn T N q => by cases q; exact ⟨rfl, Or.inl rfl⟩) rfl rfl dJ5_append_c97b9_50 (fun E50 z50 e50 k50 => ?_)
    have f50_1 := (k50 _ (knq_bo e30 f30_0)).trans e30
    refine kk_aloadN dJ5_append_c97b9_53 rfl rfl ?_
    refine kk_aret rfl (by first | exact Or.inl ⟨_, rfl⟩ | exact Or.inr ⟨_, rfl⟩) dJ5_append_c97b9_54 ?_ ?_ ?_ ?_
    · exact ⟨BS_app (K := [48 + v % 10]) e50 (by show _ = ((L.length + 1 : Nat) : Int); omega) f50_1 (kBy_u hby14 (kby_v (by omega) (by omega))) (fun j hj => (upd_n _ _ (by omega)).trans (hf14 j hj)) (fun j hj => k_at1 (by have : j < 1 := hj; omega)) (by show L.length + 1 ≤ _; omega), (fun j h1 h2 h3 => (k50 j h2).trans ((k30 j (kbx_ne h1 h3)).trans (hk14 j h1 h2)))⟩
    · omega
    · omega
    · omega
set_option maxRecDepth 20000 in
set_option maxHeartbeats 2000000 in
theorem kAppI_1 {l : Launch} {w : zW} (hfl : l.stackTraces = false) {E : List va_E} {a b m : Nat} {L : List Int} {v : Int} (hB : BS w E a b m L) (hv : 0 ≤ v ∧ v < 10) (hq : L.length + 1 ≤ 600 ∧ m ≤ 1300) : kSp l w mJ4_append_bf812 6 (kn (L.length + 1) m) (kcp (L.length + 1) m) [zV0 (zB w + a), zi v] E (some (zV0 (zB w + a))) (fun E' => BS w E' a (kbx E b (L.length + 1) m) (kcp (L.length + 1) m) (L ++ [48 + v % 10]) ∧ ∀ j, j < E.length → j ≠ a → j ≠ b → E'[j]? = E[j]?) := by
  refine kk_enter hfl (by decide) rfl false (fun q => absurd q (by decide)) 0 rfl ?_
  show zK l w mJ4_append_bf812 _ false 0 [zV0 (zB w + a), zi v] [] 0 0 E
  obtain ⟨hA, f, hF, hby, hf, hnm⟩ := id hB
  refine kk_aloadN dJ4_append_bf812_0 rfl rfl ?_
  refine kk_iloadN dJ4_append_bf812_1 rfl rfl ?_
  refine kk_callSU [zi v] (kAppI0_1 hfl (by first | assumption | omega) (by first | assumption | omega) (by first | assumption | omega)) rfl hA dJ4_append_bf812_2 ck_RJ4_53 (by decide) okJ5_append_c97b9 rfl (Nat.le_of_ble_eq_true rfl) ⟨Nat.le_of_ble_eq_true rfl, Nat.le_of_ble_eq_true rfl, by show _ ≤ _; simp only [kM, kRm]; omega, by show _ ≤ _; simp only [kM, kRm]; omega⟩ (fun _ => rfl) (fun x q => by cases q; trivial) (fun E2 q2 z2 => ?_)
  refine kk_pop rfl dJ4_append_bf812_5 ?_
  refine kk_aloadN dJ4_append_bf812_6 rfl rfl ?_
  refine kk_aret rfl (by first | exact Or.inl ⟨_, rfl⟩ | exact Or.inr ⟨_, rfl⟩) dJ4_append_bf812_7 ?_ ?_ ?_ ?_
  · exact q2
  · omega
  · omega
  · omega
set_option maxRecDepth 20000 in
set_option maxHeartbeats 2000000 in
theorem kAppI0_4 {l : Launch} {w : zW} (hfl : l.stackTraces = false) {E : List va_E} {a b m : Nat} {L : List Int} {v : Int} (hB : BS w E a b m L) (hv : 1000 ≤ v ∧ v < 10000) (hq : L.length + 4 ≤ 600 ∧ m ≤ 1300) : kSp l w mJ5_append_c97b9 5 (kn (L.length + 4) m) (kcp (L.length + 4) m) [zV0 (zB w + a), zi v] E (some (zV0 (zB w + a))) (fun E' => BS w E' a (kbx E b (L.length + 4) m) (kcp (L.length + 4) m) (L ++ [48 + (v / 100) / 10, 48 + (v / 100) % 10, 48 + (v % 100) / 10, 48 + (v % 100) % 10]) ∧ ∀ j, j < E.length → j ≠ a → j ≠ b → E'[j]? = E[j]?) := by
  refine kk_enter hfl (by decide) rfl false (fun q => absurd q (by decide)) 2 rfl ?_
  show zK l w mJ5_append_c97b9 _ false 0 [zV0 (zB w + a), zi v, zu, zu] [] 0 0 E
  obtain ⟨hA, f, hF, hby, hf, hnm⟩ := id hB
  refine kk_aloadN dJ5_append_c97b9_0 rfl rfl ?_
  refine kk_getf (v := zi ((L.length : Nat) : Int)) rfl kf_RJ5_79 hA rfl trivial dJ5_append_c97b9_1 ?_
  refine kj_istoreN [zV0 (zB w + a), zi v, zi ((L.length : Nat) : Int), zu] dJ5_append_c97b9_4 rfl (Nat.le_of_ble_eq_true rfl) (Nat.le_of_ble_eq_true rfl) rfl rfl ?_
  refine kk_iloadN dJ5_append_c97b9_5 rfl rfl ?_
  refine kk_iloadN dJ5_append_c97b9_6 rfl rfl ?_
  refine kk_callS [zi v] (kSz4 hfl (by first | assumption | omega)) dJ5_append_c97b9_7 cw_RJ5_245 okJ6_stringSize_0f7a4 rfl (Nat.le_of_ble_eq_true rfl) ⟨Nat.le_of_ble_eq_true rfl, Nat.le_of_ble_eq_true rfl, by show _ ≤ _; simp only [kM, kRm]; omega, by show _ ≤ _; simp only [kM, kRm]; omega⟩ (fun _ => rfl) (fun x q => by cases q; trivial) (fun E7 q7 _ => ?_)
  rw [q7]
  refine kk_iadd dJ5_append_c97b9_10 ?_
  refine kj_top (b := ((L.length + 4 : Nat) : Int)) (by omega) ?_
  refine kj_istoreN [zV0 (zB w + a), zi v, zi ((L.length : Nat) : Int), zi ((L.length + 4 : Nat) : Int)] dJ5_append_c97b9_11 rfl (Nat.le_of_ble_eq_true rfl) (Nat.le_of_ble_eq_true rfl) rfl rfl ?_
  refine kk_aloadN dJ5_append_c97b9_12 rfl rfl ?_
  refine kk_iloadN dJ5_append_c97b9_13 rfl rfl ?_
  refine kk_callU [zi ((L.length + 4 : Nat) : Int)] (kEns hfl (by first | assumption | omega) (by first | assumption | omega)) rfl hA dJ5_append_c97b9_14 ck_RJ5_100 okJ5_ensureCapacityInternal_d00df rfl (Nat.le_of_ble_eq_true rfl) ⟨Nat.le_of_ble_eq_true rfl, Nat.le_of_ble_eq_true rfl, by show _ ≤ _; simp only [kM, kRm]; omega, by show _ ≤ _; simp only [kM, kRm]; omega⟩ (fun _ => rfl) (fun x q => by cases q) (fun E14 q14 z14 => ?_)
  obtain ⟨hB14, hk14⟩ := q14
  obtain ⟨hA14, f14, hF14, hby14, hf14, hnm14⟩ := id hB14
  have hcp := kcp_ge (L.length + 4) m
  have hcl := kcp_le (q := (L.length + 4)) (m := m) (by omega) (by omega)
  refine kk_aloadN dJ5_append_c97b9_17 rfl rfl ?_
  refine kk_callU [] (kIsL hfl (by first | assumption | omega)) rfl hA14 dJ5_append_c97b9_18 ck_RJ5_83 okJ5_isLatin1_aae02 rfl (Nat.le_of_ble_eq_true rfl) ⟨Nat.le_of_ble_eq_true rfl, Nat.le_of_ble_eq_true rfl, by show _ ≤ _; simp only [kM, kRm]; omega, by show _ ≤ _; simp only [kM, kRm]; omega⟩ (fun q => kne hA14 q) (fun x q => by cases q; trivial) (fun E18 q18 _ => ?_)
  rw [q18]
  refine kk_if_eq (tgt := 37) (by first | assumption | (unfold zr at *; omega)) dJ5_append_c97b9_21 (by decide) (fun h21 => ?_) (fun h21 => ?_)
  · exact absurd h21 (by decide)
  · refine kk_iloadN dJ5_append_c97b9_24 rfl rfl ?_
    refine kk_iloadN dJ5_append_c97b9_25 rfl rfl ?_
    refine kk_aloadN dJ5_append_c97b9_26 rfl rfl ?_
    refine kk_getf (v := zV0 (zB w + (kbx E b (L.length + 4) m))) rfl kf_RJ5_15 hA14 rfl trivial dJ5_append_c97b9_27 ?_
    refine kk_callS [zi v, zi ((L.length + 4 : Nat) : Int), zV0 (zB w + (kbx E b (L.length + 4) m))] (kGC4 hfl hF14 hby14 (by first | assumption | omega) (by first | assumption | omega) (by first | assumption | omega)) dJ5_append_c97b9_30 cw_RJ5_248 okJ6_getChars_ba4f3 rfl (Nat.le_of_ble_eq_true rfl) ⟨Nat.le_of_ble_eq_true rfl, Nat.le_of_ble_eq_true rfl, by show _ ≤ _; simp only [kM, kRm]; omega, by show _ ≤ _; simp only [kM, kRm]; omega⟩ (fun q => kne hA14 q) (fun x q => by cases q; trivial) (fun E30 q30 z30 => ?_)
    obtain ⟨e30, k30⟩ := q30
    have f30_0 := (k30 _ (knq_ob hA14 hF14)).trans hA14
    refine kk_pop rfl dJ5_append_c97b9_33 ?_
    refine kk_goto (tgt := 48) dJ5_append_c97b9_34 (by decide) ?_
    refine kk_aloadN dJ5_append_c97b9_48 rfl rfl ?_
    refine kk_iloadN dJ5_append_c97b9_49 rfl rfl ?_
    refine kk_putf (ty := .int) rfl kf_RJ5_79 f30_0 (Nat.le_of_ble_eq_true rfl) (fun Cn T N q => by cases q; exact ⟨rfl, Or.inl rfl⟩) rfl rfl dJ5_append_c97b9_50 (fun E50 z50 e50 k50 => ?_)
    have f50_1 := (k50 _ (knq_bo e30 f30_0)).trans e30
    refine kk_aloadN dJ5_append_c97b9_53 rfl rfl ?_
    refine kk_aret rfl (by first | exact Or.inl ⟨_, rfl⟩ | exact Or.inr ⟨_, rfl⟩) dJ5_append_c97b9_54 ?_ ?_ ?_ ?_
    · exact ⟨BS_app (K := [48 + (v / 100) / 10, 48 + (v / 100) % 10, 48 + (v % 100) / 10, 48 + (v % 100) % 10]) e50 (by show _ = ((L.length + 4 : Nat) : Int); omega) f50_1 (kBy_u (kBy_u (kBy_u (kBy_u hby14 (kby_v (by omega) (by omega))) (kby_v (by omega) (by omega))) (kby_v (by omega) (by omega))) (kby_v (by omega) (by omega))) (fun j hj => (upd_n _ _ (by omega)).trans ((upd_n _ _ (by omega)).trans ((upd_n _ _ (by omega)).trans ((upd_n _ _ (by omega)).trans (hf14 j hj))))) (fun j hj => k_at4 (by have : j < 4 := hj; omega)) (by show L.length + 4 ≤ _; omega), (fun j h1 h2 h3 => (k50 j h2).trans ((k30 j (kbx_ne h1 h3)).trans (hk14 j h1 h2)))⟩
    · omega
    · omega
    · omega
set_option maxRecDepth 20000 in
set_option maxHeartbeats 2000000 in
theorem kAppI_4 {l : Launch} {w : zW} (hfl : l.stackTraces = false) {E : List va_E} {a b m : Nat} {L : List Int} {v : Int} (hB : BS w E a b m L) (hv : 1000 ≤ v ∧ v < 10000) (hq : L.length + 4 ≤ 600 ∧ m ≤ 1300) : kSp l w mJ4_append_bf812 6 (kn (L.length + 4) m) (kcp (L.length + 4) m) [zV0 (zB w + a), zi v] E (some (zV0 (zB w + a))) (fun E' => BS w E' a (kbx E b (L.length + 4) m) (kcp (L.length + 4) m) (L ++ [48 + (v / 100) / 10, 48 + (v / 100) % 10, 48 + (v % 100) / 10, 48 + (v % 100) % 10]) ∧ ∀ j, j < E.length → j ≠ a → j ≠ b → E'[j]? = E[j]?) := by
  refine kk_enter hfl (by decide) rfl false (fun q => absurd q (by decide)) 0 rfl ?_
  show zK l w mJ4_append_bf812 _ false 0 [zV0 (zB w + a), zi v] [] 0 0 E
  obtain ⟨hA, f, hF, hby, hf, hnm⟩ := id hB
  refine kk_aloadN dJ4_append_bf812_0 rfl rfl ?_
  refine kk_iloadN dJ4_append_bf812_1 rfl rfl ?_
  refine kk_callSU [zi v] (kAppI0_4 hfl (by first | assumption | omega) (by first | assumption | omega) (by first | assumption | omega)) rfl hA dJ4_append_bf812_2 ck_RJ4_53 (by decide) okJ5_append_c97b9 rfl (Nat.le_of_ble_eq_true rfl) ⟨Nat.le_of_ble_eq_true rfl, Nat.le_of_ble_eq_true rfl, by show _ ≤ _; simp only [kM, kRm]; omega, by show _ ≤ _; simp only [kM, kRm]; omega⟩ (fun _ => rfl) (fun x q => by cases q; trivial) (fun E2 q2 z2 => ?_)
  refine kk_pop rfl dJ4_append_bf812_5 ?_
  refine kk_aloadN dJ4_append_bf812_6 rfl rfl ?_
  refine kk_aret rfl (by first | exact Or.inl ⟨_, rfl⟩ | exact Or.inr ⟨_, rfl⟩) dJ4_append_bf812_7 ?_ ?_ ?_ ?_
  · exact q2
  · omega
  · omega
  · omega

