abbrev mJ5_init_d00df : zM := (yJ5_init_d00df, cJ5_init_d00df, 2, none, [])
theorem okJ5_init_d00df : zMok mJ5_init_d00df 1 := ⟨by decide, by decide, by decide +kernel⟩
theorem dJ5_init_d00df_0 : decode cJ5_init_d00df 0 = .ok (.aload_n 0, 1) := by decide +kernel
theorem dJ5_init_d00df_1 : decode cJ5_init_d00df 1 = .ok (.invokespecial 3, 3) := by decide +kernel
theorem ko_RJ5_3 : ∀ x ∈ ([.methodLink RJ5 3 Lib.objectInit, .instanceMethod Lib.objectInit, .code Lib.objectInit ⟨#[0xb1]⟩ 1 none] : List Cond), x ∈ zgood := zall [1223, 53, 54] (by decide +kernel) (by decide +kernel)
theorem dJ5_init_d00df_4 : decode cJ5_init_d00df 4 = .ok (.getstatic 18, 3) := by decide +kernel
theorem dJ5_init_d00df_7 : decode cJ5_init_d00df 7 = .ok (.ifCond .eq 18, 3) := by decide +kernel
theorem dJ5_init_d00df_10 : decode cJ5_init_d00df 10 = .ok (.aload_n 0, 1) := by decide +kernel
theorem dJ5_init_d00df_11 : decode cJ5_init_d00df 11 = .ok (.iload_n 1, 1) := by decide +kernel
theorem dJ5_init_d00df_12 : decode cJ5_init_d00df 12 = .ok (.newarray .byte, 2) := by decide +kernel
theorem dJ5_init_d00df_14 : decode cJ5_init_d00df 14 = .ok (.putfield 15, 3) := by decide +kernel
theorem dJ5_init_d00df_17 : decode cJ5_init_d00df 17 = .ok (.aload_n 0, 1) := by decide +kernel
theorem dJ5_init_d00df_18 : decode cJ5_init_d00df 18 = .ok (.iconst 0, 1) := by decide +kernel
theorem dJ5_init_d00df_19 : decode cJ5_init_d00df 19 = .ok (.putfield 22, 3) := by decide +kernel
theorem dJ5_init_d00df_22 : decode cJ5_init_d00df 22 = .ok (.goto 16, 3) := by decide +kernel
theorem dJ5_init_d00df_38 : decode cJ5_init_d00df 38 = .ok (.return_, 1) := by decide +kernel
abbrev mJ4_init_da8c8 : zM := (yJ4_init_da8c8, cJ4_init_da8c8, 1, none, [])
theorem okJ4_init_da8c8 : zMok mJ4_init_da8c8 0 := ⟨by decide, by decide, by decide +kernel⟩
theorem dJ4_init_da8c8_0 : decode cJ4_init_da8c8 0 = .ok (.aload_n 0, 1) := by decide +kernel
theorem dJ4_init_da8c8_1 : decode cJ4_init_da8c8 1 = .ok (.bipush 16, 2) := by decide +kernel
theorem dJ4_init_da8c8_3 : decode cJ4_init_da8c8 3 = .ok (.invokespecial 1, 3) := by decide +kernel
theorem ck_RJ4_1 : ∀ x ∈ ([.methodLink RJ4 1 yJ5_init_d00df, .instanceMethod yJ5_init_d00df, .initialized (yJ5_init_d00df).cls, .code yJ5_init_d00df cJ5_init_d00df 2 none] : List Cond), x ∈ zgood := zall [1220, 1221, 20, 1222] (by decide +kernel) (by decide +kernel)
theorem dJ4_init_da8c8_6 : decode cJ4_init_da8c8 6 = .ok (.return_, 1) := by decide +kernel
abbrev mJ5_getValue_6d5f1 : zM := (yJ5_getValue_6d5f1, cJ5_getValue_6d5f1, 1, (some (.array .byte)), [])
theorem okJ5_getValue_6d5f1 : zMok mJ5_getValue_6d5f1 0 := ⟨by decide, by decide, by decide +kernel⟩
theorem dJ5_getValue_6d5f1_0 : decode cJ5_getValue_6d5f1 0 = .ok (.aload_n 0, 1) := by decide +kernel
theorem dJ5_getValue_6d5f1_1 : decode cJ5_getValue_6d5f1 1 = .ok (.getfield 15, 3) := by decide +kernel
theorem dJ5_getValue_6d5f1_4 : decode cJ5_getValue_6d5f1 4 = .ok (.areturn, 1) := by decide +kernel
abbrev mJ5_length_8abf5 : zM := (yJ5_length_8abf5, cJ5_length_8abf5, 1, (some .int), [])
theorem okJ5_length_8abf5 : zMok mJ5_length_8abf5 0 := ⟨by decide, by decide, by decide +kernel⟩
theorem dJ5_length_8abf5_0 : decode cJ5_length_8abf5 0 = .ok (.aload_n 0, 1) := by decide +kernel
theorem dJ5_length_8abf5_1 : decode cJ5_length_8abf5 1 = .ok (.getfield 79, 3) := by decide +kernel
theorem dJ5_length_8abf5_4 : decode cJ5_length_8abf5 4 = .ok (.ireturn, 1) := by decide +kernel
abbrev mJ4_length_8abf5 : zM := (yJ4_length_8abf5, cJ4_length_8abf5, 1, (some .int), [])
theorem okJ4_length_8abf5 : zMok mJ4_length_8abf5 0 := ⟨by decide, by decide, by decide +kernel⟩
theorem dJ4_length_8abf5_0 : decode cJ4_length_8abf5 0 = .ok (.aload_n 0, 1) := by decide +kernel
theorem dJ4_length_8abf5_1 : decode cJ4_length_8abf5 1 = .ok (.invokespecial 343, 3) := by decide +kernel
theorem ck_RJ4_343 : kCwSU RJ4 343 mJ5_length_8abf5 := ⟨zall2 [1402, 1398, 1244, 1397] (by decide +kernel) (by decide +kernel), zall [20, 1403] (by decide +kernel) (by decide +kernel)⟩
theorem dJ4_length_8abf5_4 : decode cJ4_length_8abf5 4 = .ok (.ireturn, 1) := by decide +kernel
abbrev mJ7_checkLength_df160 : zM := (yJ7_checkLength_df160, cJ7_checkLength_df160, 2, none, [])
theorem okJ7_checkLength_df160 : zMok mJ7_checkLength_df160 2 := ⟨by decide, by decide, by decide +kernel⟩
theorem dJ7_checkLength_df160_0 : decode cJ7_checkLength_df160 0 = .ok (.iload_n 1, 1) := by decide +kernel
theorem dJ7_checkLength_df160_1 : decode cJ7_checkLength_df160 1 = .ok (.iload_n 0, 1) := by decide +kernel
theorem dJ7_checkLength_df160_2 : decode cJ7_checkLength_df160 2 = .ok (.if_icmp .ge 35, 3) := by decide +kernel
theorem dJ7_checkLength_df160_37 : decode cJ7_checkLength_df160 37 = .ok (.return_, 1) := by decide +kernel
abbrev mJ7_copyOfRangeByte_39247 : zM := (yJ7_copyOfRangeByte_39247, cJ7_copyOfRangeByte_39247, 5, (some (.array .byte)), [])
theorem okJ7_copyOfRangeByte_39247 : zMok mJ7_copyOfRangeByte_39247 3 := ⟨by decide, by decide, by decide +kernel⟩
theorem dJ7_copyOfRangeByte_39247_0 : decode cJ7_copyOfRangeByte_39247 0 = .ok (.iload_n 1, 1) := by decide +kernel
theorem dJ7_copyOfRangeByte_39247_1 : decode cJ7_copyOfRangeByte_39247 1 = .ok (.iload_n 2, 1) := by decide +kernel
theorem dJ7_copyOfRangeByte_39247_2 : decode cJ7_copyOfRangeByte_39247 2 = .ok (.invokestatic 343, 3) := by decide +kernel
theorem cw_RJ7_343 : zCwS RJ7 343 mJ7_checkLength_df160 := zall [1411, 1412, 25, 1413] (by decide +kernel) (by decide +kernel)
theorem dJ7_copyOfRangeByte_39247_5 : decode cJ7_copyOfRangeByte_39247 5 = .ok (.iload_n 2, 1) := by decide +kernel
theorem dJ7_copyOfRangeByte_39247_6 : decode cJ7_copyOfRangeByte_39247 6 = .ok (.iload_n 1, 1) := by decide +kernel
theorem dJ7_copyOfRangeByte_39247_7 : decode cJ7_copyOfRangeByte_39247 7 = .ok (.isub, 1) := by decide +kernel
theorem dJ7_copyOfRangeByte_39247_8 : decode cJ7_copyOfRangeByte_39247 8 = .ok (.istore_n 3, 1) := by decide +kernel
theorem dJ7_copyOfRangeByte_39247_9 : decode cJ7_copyOfRangeByte_39247 9 = .ok (.iload_n 3, 1) := by decide +kernel
theorem dJ7_copyOfRangeByte_39247_10 : decode cJ7_copyOfRangeByte_39247 10 = .ok (.newarray .byte, 2) := by decide +kernel
theorem dJ7_copyOfRangeByte_39247_12 : decode cJ7_copyOfRangeByte_39247 12 = .ok (.astore 4, 2) := by decide +kernel
theorem dJ7_copyOfRangeByte_39247_14 : decode cJ7_copyOfRangeByte_39247 14 = .ok (.aload_n 0, 1) := by decide +kernel
theorem dJ7_copyOfRangeByte_39247_15 : decode cJ7_copyOfRangeByte_39247 15 = .ok (.iload_n 1, 1) := by decide +kernel
theorem dJ7_copyOfRangeByte_39247_16 : decode cJ7_copyOfRangeByte_39247 16 = .ok (.aload 4, 2) := by decide +kernel
theorem dJ7_copyOfRangeByte_39247_18 : decode cJ7_copyOfRangeByte_39247 18 = .ok (.iconst 0, 1) := by decide +kernel
theorem dJ7_copyOfRangeByte_39247_19 : decode cJ7_copyOfRangeByte_39247 19 = .ok (.aload_n 0, 1) := by decide +kernel
theorem dJ7_copyOfRangeByte_39247_20 : decode cJ7_copyOfRangeByte_39247 20 = .ok (.arraylength, 1) := by decide +kernel
theorem dJ7_copyOfRangeByte_39247_21 : decode cJ7_copyOfRangeByte_39247 21 = .ok (.iload_n 1, 1) := by decide +kernel
theorem dJ7_copyOfRangeByte_39247_22 : decode cJ7_copyOfRangeByte_39247 22 = .ok (.isub, 1) := by decide +kernel
theorem dJ7_copyOfRangeByte_39247_23 : decode cJ7_copyOfRangeByte_39247 23 = .ok (.iload_n 3, 1) := by decide +kernel
theorem dJ7_copyOfRangeByte_39247_24 : decode cJ7_copyOfRangeByte_39247 24 = .ok (.invokestatic 304, 3) := by decide +kernel
theorem dJ7_copyOfRangeByte_39247_27 : decode cJ7_copyOfRangeByte_39247 27 = .ok (.invokestatic 150, 3) := by decide +kernel
theorem dJ7_copyOfRangeByte_39247_30 : decode cJ7_copyOfRangeByte_39247 30 = .ok (.aload 4, 2) := by decide +kernel
theorem dJ7_copyOfRangeByte_39247_32 : decode cJ7_copyOfRangeByte_39247 32 = .ok (.areturn, 1) := by decide +kernel
abbrev mJ7_copyOfRange_39247 : zM := (yJ7_copyOfRange_39247, cJ7_copyOfRange_39247, 3, (some (.array .byte)), [])
theorem okJ7_copyOfRange_39247 : zMok mJ7_copyOfRange_39247 3 := ⟨by decide, by decide, by decide +kernel⟩
theorem dJ7_copyOfRange_39247_0 : decode cJ7_copyOfRange_39247 0 = .ok (.iload_n 1, 1) := by decide +kernel
theorem dJ7_copyOfRange_39247_1 : decode cJ7_copyOfRange_39247 1 = .ok (.ifCond .ne 9, 3) := by decide +kernel
theorem dJ7_copyOfRange_39247_4 : decode cJ7_copyOfRange_39247 4 = .ok (.iload_n 2, 1) := by decide +kernel
theorem dJ7_copyOfRange_39247_5 : decode cJ7_copyOfRange_39247 5 = .ok (.aload_n 0, 1) := by decide +kernel
theorem dJ7_copyOfRange_39247_6 : decode cJ7_copyOfRange_39247 6 = .ok (.arraylength, 1) := by decide +kernel
theorem dJ7_copyOfRange_39247_7 : decode cJ7_copyOfRange_39247 7 = .ok (.if_icmp .eq 10, 3) := by decide +kernel
theorem dJ7_copyOfRange_39247_17 : decode cJ7_copyOfRange_39247 17 = .ok (.aload_n 0, 1) := by decide +kernel
theorem dJ7_copyOfRange_39247_18 : decode cJ7_copyOfRange_39247 18 = .ok (.invokevirtual 310, 3) := by decide +kernel
theorem kclw : ∀ z ∈ ([.methodLink RJ7 310 ⟨"[B", "clone", "()Ljava/lang/Object;"⟩, .sameMethod "[B" "java/lang/Object" "clone" "()Ljava/lang/Object;", .native ⟨"java/lang/Object", "clone", "()Ljava/lang/Object;"⟩, .instanceMethod ⟨"java/lang/Object", "clone", "()Ljava/lang/Object;"⟩, .selects "[B" ⟨"[B", "clone", "()Ljava/lang/Object;"⟩ ⟨"java/lang/Object", "clone", "()Ljava/lang/Object;"⟩, .castable "[B" "java/lang/Cloneable"] : List Cond), zok2 z := zall2 [1276, 1277, 1278, 1279, 1280, 1281] (by decide +kernel) (by decide +kernel)
theorem dJ7_copyOfRange_39247_21 : decode cJ7_copyOfRange_39247 21 = .ok (.checkcast 311, 3) := by decide +kernel
theorem kct_RJ7_311 : Cond.classLink RJ7 311 "[B" ∈ zgood := zmem1 1282 (by decide +kernel) rfl
theorem dJ7_copyOfRange_39247_24 : decode cJ7_copyOfRange_39247 24 = .ok (.areturn, 1) := by decide +kernel
theorem dJ7_copyOfRange_39247_10 : decode cJ7_copyOfRange_39247 10 = .ok (.aload_n 0, 1) := by decide +kernel
theorem dJ7_copyOfRange_39247_11 : decode cJ7_copyOfRange_39247 11 = .ok (.iload_n 1, 1) := by decide +kernel
theorem dJ7_copyOfRange_39247_12 : decode cJ7_copyOfRange_39247 12 = .ok (.iload_n 2, 1) := by decide +kernel
theorem dJ7_copyOfRange_39247_13 : decode cJ7_copyOfRange_39247 13 = .ok (.invokestatic 339, 3) := by decide +kernel
theorem cw_RJ7_339 : zCwS RJ7 339 mJ7_copyOfRangeByte_39247 := zall [1408, 1409, 25, 1410] (by decide +kernel) (by decide +kernel)
theorem dJ7_copyOfRange_39247_16 : decode cJ7_copyOfRange_39247 16 = .ok (.areturn, 1) := by decide +kernel
abbrev mJ0_init_db425 : zM := (yJ0_init_db425, cJ0_init_db425, 5, none, [])
theorem okJ0_init_db425 : zMok mJ0_init_db425 2 := ⟨by decide, by decide, by decide +kernel⟩
theorem dJ0_init_db425_0 : decode cJ0_init_db425 0 = .ok (.aload_n 0, 1) := by decide +kernel
theorem dJ0_init_db425_1 : decode cJ0_init_db425 1 = .ok (.invokespecial 1, 3) := by decide +kernel
theorem ko_RJ0_1 : ∀ x ∈ ([.methodLink RJ0 1 Lib.objectInit, .instanceMethod Lib.objectInit, .code Lib.objectInit ⟨#[0xb1]⟩ 1 none] : List Cond), x ∈ zgood := zall [1390, 53, 54] (by decide +kernel) (by decide +kernel)
theorem dJ0_init_db425_4 : decode cJ0_init_db425 4 = .ok (.aload_n 1, 1) := by decide +kernel
theorem dJ0_init_db425_5 : decode cJ0_init_db425 5 = .ok (.invokevirtual 552, 3) := by decide +kernel
theorem ck_RJ0_552 : kCwU RJ0 552 yJ5_getValue_6d5f1 mJ5_getValue_6d5f1 := ⟨⟨cJ5_getValue_6d5f1, 1, (some (.array .byte)), List.mem_of_getElem? (i := 1395) (by decide +kernel), by decide +kernel⟩, zall2 [1391, 1393, 1392, 1392] (by decide +kernel) (by decide +kernel), zall [20, 1395] (by decide +kernel) (by decide +kernel), Or.inl ⟨List.mem_of_getElem? (i := 1394) (by decide +kernel), by decide +kernel⟩⟩
theorem dJ0_init_db425_8 : decode cJ0_init_db425 8 = .ok (.astore_n 3, 1) := by decide +kernel
theorem dJ0_init_db425_9 : decode cJ0_init_db425 9 = .ok (.aload_n 1, 1) := by decide +kernel
theorem dJ0_init_db425_10 : decode cJ0_init_db425 10 = .ok (.invokevirtual 549, 3) := by decide +kernel
theorem ck_RJ0_549 : kCwU RJ0 549 yJ5_length_8abf5 mJ4_length_8abf5 := ⟨⟨cJ5_length_8abf5, 1, (some .int), List.mem_of_getElem? (i := 1403) (by decide +kernel), by decide +kernel⟩, zall2 [1396, 1398, 1397, 1400] (by decide +kernel) (by decide +kernel), zall [21, 1401] (by decide +kernel) (by decide +kernel), Or.inl ⟨List.mem_of_getElem? (i := 1399) (by decide +kernel), by decide +kernel⟩⟩
theorem dJ0_init_db425_13 : decode cJ0_init_db425 13 = .ok (.istore 4, 2) := by decide +kernel
theorem dJ0_init_db425_15 : decode cJ0_init_db425 15 = .ok (.aload_n 1, 1) := by decide +kernel
theorem dJ0_init_db425_16 : decode cJ0_init_db425 16 = .ok (.invokevirtual 1047, 3) := by decide +kernel
theorem ck_RJ0_1047 : kCwU RJ0 1047 yJ5_isLatin1_aae02 mJ5_isLatin1_aae02 := ⟨⟨cJ5_isLatin1_aae02, 1, (some .boolean), List.mem_of_getElem? (i := 1289) (by decide +kernel), by decide +kernel⟩, zall2 [1404, 1287, 1286, 1286] (by decide +kernel) (by decide +kernel), zall [20, 1289] (by decide +kernel) (by decide +kernel), Or.inl ⟨List.mem_of_getElem? (i := 1288) (by decide +kernel), by decide +kernel⟩⟩
theorem dJ0_init_db425_19 : decode cJ0_init_db425 19 = .ok (.ifCond .eq 22, 3) := by decide +kernel
theorem dJ0_init_db425_22 : decode cJ0_init_db425 22 = .ok (.aload_n 0, 1) := by decide +kernel
theorem dJ0_init_db425_23 : decode cJ0_init_db425 23 = .ok (.iconst 0, 1) := by decide +kernel
theorem dJ0_init_db425_24 : decode cJ0_init_db425 24 = .ok (.putfield 15, 3) := by decide +kernel
theorem kf_RJ0_15 : kFl RJ0 15 11 1 := ⟨RJ0, TJ0, 4, rfl, by decide, zmem1 1433 (by decide +kernel) rfl⟩
theorem dJ0_init_db425_27 : decode cJ0_init_db425 27 = .ok (.aload_n 0, 1) := by decide +kernel
theorem dJ0_init_db425_28 : decode cJ0_init_db425 28 = .ok (.aload_n 3, 1) := by decide +kernel
theorem dJ0_init_db425_29 : decode cJ0_init_db425 29 = .ok (.iconst 0, 1) := by decide +kernel
theorem dJ0_init_db425_30 : decode cJ0_init_db425 30 = .ok (.iload 4, 2) := by decide +kernel
theorem dJ0_init_db425_32 : decode cJ0_init_db425 32 = .ok (.invokestatic 54, 3) := by decide +kernel
theorem cw_RJ0_54 : zCwS RJ0 54 mJ7_copyOfRange_39247 := zall [1405, 1406, 25, 1407] (by decide +kernel) (by decide +kernel)
theorem dJ0_init_db425_35 : decode cJ0_init_db425 35 = .ok (.putfield 9, 3) := by decide +kernel
theorem kf_RJ0_9 : kFl RJ0 9 11 0 := ⟨RJ0, TJ0, 4, rfl, by decide, zmem1 1432 (by decide +kernel) rfl⟩
theorem dJ0_init_db425_38 : decode cJ0_init_db425 38 = .ok (.goto 59, 3) := by decide +kernel
theorem dJ0_init_db425_97 : decode cJ0_init_db425 97 = .ok (.return_, 1) := by decide +kernel
abbrev mJ0_init_81219 : zM := (yJ0_init_81219, cJ0_init_81219, 2, none, [])
theorem okJ0_init_81219 : zMok mJ0_init_81219 1 := ⟨by decide, by decide, by decide +kernel⟩
theorem dJ0_init_81219_0 : decode cJ0_init_81219 0 = .ok (.aload_n 0, 1) := by decide +kernel
theorem dJ0_init_81219_1 : decode cJ0_init_81219 1 = .ok (.aload_n 1, 1) := by decide +kernel
theorem dJ0_init_81219_2 : decode cJ0_init_81219 2 = .ok (.aconst_null, 1) := by decide +kernel
theorem dJ0_init_81219_3 : decode cJ0_init_81219 3 = .ok (.invokespecial 489, 3) := by decide +kernel
theorem ck_RJ0_489 : ∀ x ∈ ([.methodLink RJ0 489 yJ0_init_db425, .instanceMethod yJ0_init_db425, .initialized (yJ0_init_db425).cls, .code yJ0_init_db425 cJ0_init_db425 5 none] : List Cond), x ∈ zgood := zall [1387, 1388, 22, 1389] (by decide +kernel) (by decide +kernel)
theorem dJ0_init_81219_6 : decode cJ0_init_81219 6 = .ok (.return_, 1) := by decide +kernel
abbrev mJ4_toString_0e30d : zM := (yJ4_toString_0e30d, cJ4_toString_0e30d, 1, (some (.object "java/lang/String")), [])
theorem okJ4_toString_0e30d : zMok mJ4_toString_0e30d 0 := ⟨by decide, by decide, by decide +kernel⟩
theorem dJ4_toString_0e30d_0 : decode cJ4_toString_0e30d 0 = .ok (.new 18, 3) := by decide +kernel
theorem kn_RJ4_18 : Cond.classLink RJ4 18 RJ0 ∈ zgood := zmem1 1382 (by decide +kernel) rfl
theorem kin_11 : Cond.instantiable RJ0 4 ∈ zgood := zmem1 1383 (by decide +kernel) rfl
theorem kii_11 : Cond.initialized RJ0 ∈ zgood := zmem1 22 (by decide +kernel) rfl
theorem kfs_11 : ∀ ty : Nat → FieldType, (∀ k, k < 4 → parseFieldDescriptor (TJ0 k).2.2.1 = some (ty k)) → ∀ j, j < 4 → defaultValue (ty j) = vp_V [.null, .int 0, .int 0, .int 0] j := fun ty h j hj => by
  have h2 := (tyJ0_ok j hj).symm.trans (h j hj)
  rw [← Option.some.inj h2]
  rcases (by omega : j = 0 ∨ j = 1 ∨ j = 2 ∨ j = 3) with rfl | rfl | rfl | rfl <;> rfl
theorem dJ4_toString_0e30d_3 : decode cJ4_toString_0e30d 3 = .ok (.dup, 1) := by decide +kernel
theorem dJ4_toString_0e30d_4 : decode cJ4_toString_0e30d 4 = .ok (.aload_n 0, 1) := by decide +kernel
theorem dJ4_toString_0e30d_5 : decode cJ4_toString_0e30d 5 = .ok (.invokespecial 137, 3) := by decide +kernel
theorem ck_RJ4_137 : ∀ x ∈ ([.methodLink RJ4 137 yJ0_init_81219, .instanceMethod yJ0_init_81219, .initialized (yJ0_init_81219).cls, .code yJ0_init_81219 cJ0_init_81219 2 none] : List Cond), x ∈ zgood := zall [1384, 1385, 22, 1386] (by decide +kernel) (by decide +kernel)
theorem dJ4_toString_0e30d_8 : decode cJ4_toString_0e30d 8 = .ok (.areturn, 1) := by decide +kernel

set_option maxRecDepth 20000 in
set_option maxHeartbeats 2000000 in
theorem kInitA {l : Launch} {w : zW} (hfl : l.stackTraces = false) {E : List va_E} {a : Nat} (hA : E[a]? = some (.inr (10, [.null, .int 0, .int 0, .int 0]))) : kSp l w mJ5_init_d00df 2 1 16 [zV0 (zB w + a), zi 16] E (none) (fun E' => BS w E' a E.length 16 [] ∧ (∀ j, j < E.length → j ≠ a → E'[j]? = E[j]?)) := by
  refine kk_enter hfl (by decide) rfl true (fun _ => rfl) 0 rfl ?_
  show zK l w mJ5_init_d00df _ true 0 [zV0 (zB w + a), zi 16] [] 0 0 E
  refine kk_aloadN dJ5_init_d00df_0 rfl rfl ?_
  refine zk_obj ko_RJ5_3 (Nat.le_of_ble_eq_true rfl) ⟨Nat.le_of_ble_eq_true rfl, Nat.le_of_ble_eq_true rfl⟩ dJ5_init_d00df_1 ?_
  refine kk_compact fs_RJ5_18 dJ5_init_d00df_4 ?_
  refine kk_if_eq (tgt := 25) (by first | assumption | (unfold zr at *; omega)) dJ5_init_d00df_7 (by decide) (fun h7 => ?_) (fun h7 => ?_)
  · exact absurd h7 (by decide)
  · refine kk_aloadN dJ5_init_d00df_10 rfl rfl ?_
    refine kk_iloadN dJ5_init_d00df_11 rfl rfl ?_
    refine kk_newb (n := 16) (by omega) (by omega) rfl (fun _ => rfl) kac (by show _ ≤ _; simp only [kM, kRm]; omega) (by show _ ≤ _; simp only [kM, kRm]; omega) dJ5_init_d00df_12 (fun E12 z12 e12 k12 => ?_)
    have f12_0 := (k12 _ (List.getElem?_eq_some_iff.mp hA).1).trans hA
    refine kk_putf (ty := .array .byte) rfl kf_RJ5_15 f12_0 (Nat.le_of_ble_eq_true rfl) (fun Cn T N q => by cases q; exact ⟨rfl, Or.inl rfl⟩) rfl rfl dJ5_init_d00df_14 (fun E14 z14 e14 k14 => ?_)
    have f14_1 := (k14 _ (knq_bo e12 f12_0)).trans e12
    refine kk_aloadN dJ5_init_d00df_17 rfl rfl ?_
    refine kk_iconst dJ5_init_d00df_18 ?_
    refine kk_putf (ty := .byte) rfl kf_RJ5_22 e14 (Nat.le_of_ble_eq_true rfl) (fun Cn T N q => by cases q; exact ⟨rfl, Or.inl rfl⟩) rfl rfl dJ5_init_d00df_19 (fun E19 z19 e19 k19 => ?_)
    have f19_1 := (k19 _ (knq_bo f14_1 e14)).trans f14_1
    refine kk_goto (tgt := 38) dJ5_init_d00df_22 (by decide) ?_
    refine kk_vret rfl dJ5_init_d00df_38 ?_ ?_ ?_ ?_
    · exact ⟨⟨e19, _, f19_1, kBy_0, fun j hj => absurd hj (Nat.not_lt_zero j), Nat.zero_le _⟩, fun j h1 h2 => (k19 j h2).trans ((k14 j h2).trans (k12 j h1))⟩
    · omega
    · omega
    · omega
set_option maxRecDepth 20000 in
set_option maxHeartbeats 2000000 in
theorem kInit {l : Launch} {w : zW} (hfl : l.stackTraces = false) {E : List va_E} {a : Nat} (hA : E[a]? = some (.inr (10, [.null, .int 0, .int 0, .int 0]))) : kSp l w mJ4_init_da8c8 3 1 16 [zV0 (zB w + a)] E (none) (fun E' => BS w E' a E.length 16 [] ∧ (∀ j, j < E.length → j ≠ a → E'[j]? = E[j]?)) := by
  refine kk_enter hfl (by decide) rfl true (fun _ => rfl) 0 rfl ?_
  show zK l w mJ4_init_da8c8 _ true 0 [zV0 (zB w + a)] [] 0 0 E
  refine kk_aloadN dJ4_init_da8c8_0 rfl rfl ?_
  refine kk_bipush dJ4_init_da8c8_1 rfl ?_
  refine kk_callI [zi 16] (kInitA hfl (by first | assumption | omega)) dJ4_init_da8c8_3 ck_RJ4_1 okJ5_init_d00df rfl rfl (Nat.le_of_ble_eq_true rfl) ⟨Nat.le_of_ble_eq_true rfl, Nat.le_of_ble_eq_true rfl, by show _ ≤ _; simp only [kM, kRm]; omega, by show _ ≤ _; simp only [kM, kRm]; omega⟩ (fun _ => rfl) (fun E3 q3 z3 => ?_)
  refine kk_vret rfl dJ4_init_da8c8_6 ?_ ?_ ?_ ?_
  · exact q3
  · omega
  · omega
  · omega
set_option maxRecDepth 20000 in
set_option maxHeartbeats 2000000 in
theorem kGetV {l : Launch} {w : zW} (hfl : l.stackTraces = false) {E : List va_E} {a b m : Nat} {L : List Int} (hB : BS w E a b m L) : kSp l w mJ5_getValue_6d5f1 0 0 0 [zV0 (zB w + a)] E (some (zV0 (zB w + b))) (fun E' => E' = E) := by
  refine kk_enter hfl (by decide) rfl false (fun q => absurd q (by decide)) 0 rfl ?_
  show zK l w mJ5_getValue_6d5f1 _ false 0 [zV0 (zB w + a)] [] 0 0 E
  obtain ⟨hA, f, hF, hby, hf, hnm⟩ := id hB
  refine kk_aloadN dJ5_getValue_6d5f1_0 rfl rfl ?_
  refine kk_getf (v := zV0 (zB w + b)) rfl kf_RJ5_15 hA rfl trivial dJ5_getValue_6d5f1_1 ?_
  refine kk_aret rfl (by first | exact Or.inl ⟨_, rfl⟩ | exact Or.inr ⟨_, rfl⟩) dJ5_getValue_6d5f1_4 ?_ ?_ ?_ ?_
  · rfl
  · omega
  · omega
  · omega
set_option maxRecDepth 20000 in
set_option maxHeartbeats 2000000 in
theorem kLenA {l : Launch} {w : zW} (hfl : l.stackTraces = false) {E : List va_E} {a b m : Nat} {L : List Int} (hB : BS w E a b m L) : kSp l w mJ5_length_8abf5 0 0 0 [zV0 (zB w + a)] E (some (zi ((L.length : Nat) : Int))) (fun E' => E' = E) := by
  refine kk_enter hfl (by decide) rfl false (fun q => absurd q (by decide)) 0 rfl ?_
  show zK l w mJ5_length_8abf5 _ false 0 [zV0 (zB w + a)] [] 0 0 E
  obtain ⟨hA, f, hF, hby, hf, hnm⟩ := id hB
  refine kk_aloadN dJ5_length_8abf5_0 rfl rfl ?_
  refine kk_getf (v := zi ((L.length : Nat) : Int)) rfl kf_RJ5_79 hA rfl trivial dJ5_length_8abf5_1 ?_
  refine kk_iret rfl rfl dJ5_length_8abf5_4 ?_ ?_ ?_ ?_
  · rfl
  · omega
  · omega
  · omega
set_option maxRecDepth 20000 in
set_option maxHeartbeats 2000000 in
theorem kLenB {l : Launch} {w : zW} (hfl : l.stackTraces = false) {E : List va_E} {a b m : Nat} {L : List Int} (hB : BS w E a b m L) : kSp l w mJ4_length_8abf5 1 0 0 [zV0 (zB w + a)] E (some (zi ((L.length : Nat) : Int))) (fun E' => E' = E) := by
  refine kk_enter hfl (by decide) rfl false (fun q => absurd q (by decide)) 0 rfl ?_
  show zK l w mJ4_length_8abf5 _ false 0 [zV0 (zB w + a)] [] 0 0 E
  obtain ⟨hA, f, hF, hby, hf, hnm⟩ := id hB
  refine kk_aloadN dJ4_length_8abf5_0 rfl rfl ?_
  refine kk_callSU [] (kLenA hfl (by first | assumption | omega)) rfl hA dJ4_length_8abf5_1 ck_RJ4_343 (by decide) okJ5_length_8abf5 rfl (Nat.le_of_ble_eq_true rfl) ⟨Nat.le_of_ble_eq_true rfl, Nat.le_of_ble_eq_true rfl, by show _ ≤ _; simp only [kM, kRm]; omega, by show _ ≤ _; simp only [kM, kRm]; omega⟩ (fun _ => rfl) (fun x q => by cases q; trivial) (fun E1 q1 _ => ?_)
  rw [q1]
  refine kk_iret rfl rfl dJ4_length_8abf5_4 ?_ ?_ ?_ ?_
  · rfl
  · omega
  · omega
  · omega
set_option maxRecDepth 20000 in
set_option maxHeartbeats 2000000 in
theorem kChk {l : Launch} {w : zW} (hfl : l.stackTraces = false) {E : List va_E} {q : Nat} (hq : q ≤ 60000) : kSp l w mJ7_checkLength_df160 0 0 0 [zi 0, zi ((q : Nat) : Int)] E (none) (fun E' => E' = E) := by
  refine kk_enter hfl (by decide) rfl false (fun q => absurd q (by decide)) 0 rfl ?_
  show zK l w mJ7_checkLength_df160 _ false 0 [zi 0, zi ((q : Nat) : Int)] [] 0 0 E
  refine kk_iloadN dJ7_checkLength_df160_0 rfl rfl ?_
  refine kk_iloadN dJ7_checkLength_df160_1 rfl rfl ?_
  refine kk_icmp_ge (tgt := 37) (by first | assumption | (unfold zr at *; omega)) (by first | assumption | (unfold zr at *; omega)) dJ7_checkLength_df160_2 (by decide) (fun h2 => ?_) (fun h2 => ?_)
  · refine kk_vret rfl dJ7_checkLength_df160_37 ?_ ?_ ?_ ?_
    · rfl
    · omega
    · omega
    · omega
  · exfalso; omega
set_option maxRecDepth 20000 in
set_option maxHeartbeats 2000000 in
theorem kCORB {l : Launch} {w : zW} (hfl : l.stackTraces = false) {E : List va_E} {b m : Nat} {f : Nat → Int32} {q : Nat} (hF : E[b]? = some (.inl (zA w 1, m, .inl f))) (hby : kBy f) (hq : q ≤ m ∧ m ≤ 60000) : kSp l w mJ7_copyOfRangeByte_39247 3 1 q [zV0 (zB w + b), zi 0, zi ((q : Nat) : Int)] E (some (zV0 (zB w + E.length))) (fun E' => E'[E.length]? = some (.inl (zA w 1, q, .inl (va_cpy f (fun _ => 0) 0 0 q))) ∧ ∀ j, j < E.length → E'[j]? = E[j]?) := by
  refine kk_enter hfl (by decide) rfl false (fun q => absurd q (by decide)) 2 rfl ?_
  show zK l w mJ7_copyOfRangeByte_39247 _ false 0 [zV0 (zB w + b), zi 0, zi ((q : Nat) : Int), zu, zu] [] 0 0 E
  have hb1 := (List.getElem?_eq_some_iff.mp hF).1
  refine kk_iloadN dJ7_copyOfRangeByte_39247_0 rfl rfl ?_
  refine kk_iloadN dJ7_copyOfRangeByte_39247_1 rfl rfl ?_
  refine kk_callS [zi 0, zi ((q : Nat) : Int)] (kChk hfl (by first | assumption | omega)) dJ7_copyOfRangeByte_39247_2 cw_RJ7_343 okJ7_checkLength_df160 rfl (Nat.le_of_ble_eq_true rfl) ⟨Nat.le_of_ble_eq_true rfl, Nat.le_of_ble_eq_true rfl, by show _ ≤ _; simp only [kM, kRm]; omega, by show _ ≤ _; simp only [kM, kRm]; omega⟩ (fun _ => rfl) (fun x q => by cases q) (fun E2 q2 _ => ?_)
  rw [q2]
  refine kk_iloadN dJ7_copyOfRangeByte_39247_5 rfl rfl ?_
  refine kk_iloadN dJ7_copyOfRangeByte_39247_6 rfl rfl ?_
  refine kk_isub dJ7_copyOfRangeByte_39247_7 ?_
  refine kj_top (b := ((q : Nat) : Int)) (by omega) ?_
  refine kj_istoreN [zV0 (zB w + b), zi 0, zi ((q : Nat) : Int), zi ((q : Nat) : Int), zu] dJ7_copyOfRangeByte_39247_8 rfl (Nat.le_of_ble_eq_true rfl) (Nat.le_of_ble_eq_true rfl) rfl rfl ?_
  refine kk_iloadN dJ7_copyOfRangeByte_39247_9 rfl rfl ?_
  refine kk_newb (n := q) (by omega) (by omega) rfl (fun _ => rfl) kac (by show _ ≤ _; simp only [kM, kRm]; omega) (by show _ ≤ _; simp only [kM, kRm]; omega) dJ7_copyOfRangeByte_39247_10 (fun E10 z10 e10 k10 => ?_)
  have f10_0 := (k10 _ (List.getElem?_eq_some_iff.mp hF).1).trans hF
  refine kk_astore dJ7_copyOfRangeByte_39247_12 (Nat.le_of_ble_eq_true rfl) (Nat.le_of_ble_eq_true rfl) rfl ?_
  refine kk_aloadN dJ7_copyOfRangeByte_39247_14 rfl rfl ?_
  refine kk_iloadN dJ7_copyOfRangeByte_39247_15 rfl rfl ?_
  refine kk_aload dJ7_copyOfRangeByte_39247_16 rfl ?_
  refine kk_iconst dJ7_copyOfRangeByte_39247_18 ?_
  refine kk_aloadN dJ7_copyOfRangeByte_39247_19 rfl rfl ?_
  refine kk_alen (q := 1) rfl f10_0 rfl dJ7_copyOfRangeByte_39247_20 ?_
  refine kk_iloadN dJ7_copyOfRangeByte_39247_21 rfl rfl ?_
  refine kk_isub dJ7_copyOfRangeByte_39247_22 ?_
  refine kk_iloadN dJ7_copyOfRangeByte_39247_23 rfl rfl ?_
  refine kk_min (by first | assumption | (unfold zr at *; omega)) (by first | assumption | (unfold zr at *; omega)) mw_RJ7_304 (Nat.le_of_ble_eq_true rfl) ⟨Nat.le_of_ble_eq_true rfl, Nat.le_of_ble_eq_true rfl⟩ ⟨by show _ ≤ _; simp only [kM, kRm]; omega, by show _ ≤ _; simp only [kM, kRm]; omega⟩ dJ7_copyOfRangeByte_39247_24 ?_
  refine kk_copy (n := q) (dp := 0) rfl rfl f10_0 e10 (by omega) (by omega) (by omega) (by omega) (by omega) hby aw_RJ7_150 (Nat.le_of_ble_eq_true rfl) ⟨Nat.le_of_ble_eq_true rfl, Nat.le_trans nfw_34 (Nat.le_of_ble_eq_true rfl)⟩ dJ7_copyOfRangeByte_39247_27 (fun E27 z27 e27 k27 => ?_)
  have f27_0 := (k27 _ (by omega)).trans f10_0
  refine kk_aload dJ7_copyOfRangeByte_39247_30 rfl ?_
  refine kk_aret rfl (by first | exact Or.inl ⟨_, rfl⟩ | exact Or.inr ⟨_, rfl⟩) dJ7_copyOfRangeByte_39247_32 ?_ ?_ ?_ ?_
  · exact ⟨e27, fun j hj => (k27 j (by omega)).trans (k10 j hj)⟩
  · omega
  · omega
  · omega
set_option maxRecDepth 20000 in
set_option maxHeartbeats 2000000 in
theorem kCOR {l : Launch} {w : zW} (hfl : l.stackTraces = false) {E : List va_E} {b m : Nat} {f : Nat → Int32} {q : Nat} (hF : E[b]? = some (.inl (zA w 1, m, .inl f))) (hby : kBy f) (hq : q ≤ m ∧ m ≤ 60000) : kSp l w mJ7_copyOfRange_39247 4 1 q [zV0 (zB w + b), zi 0, zi ((q : Nat) : Int)] E (some (zV0 (zB w + E.length))) (fun E' => ∃ g, E'[E.length]? = some (.inl (zA w 1, q, .inl g)) ∧ (∀ j, j < q → g j = f j) ∧ ∀ j, j < E.length → E'[j]? = E[j]?) := by
  refine kk_enter hfl (by decide) rfl false (fun q => absurd q (by decide)) 0 rfl ?_
  show zK l w mJ7_copyOfRange_39247 _ false 0 [zV0 (zB w + b), zi 0, zi ((q : Nat) : Int)] [] 0 0 E
  have hb1 := (List.getElem?_eq_some_iff.mp hF).1
  refine kk_iloadN dJ7_copyOfRange_39247_0 rfl rfl ?_
  refine kk_if_ne (tgt := 10) (by first | assumption | (unfold zr at *; omega)) dJ7_copyOfRange_39247_1 (by decide) (fun h1 => ?_) (fun h1 => ?_)
  · exact absurd h1 (by decide)
  · refine kk_iloadN dJ7_copyOfRange_39247_4 rfl rfl ?_
    refine kk_aloadN dJ7_copyOfRange_39247_5 rfl rfl ?_
    refine kk_alen (q := 1) rfl hF rfl dJ7_copyOfRange_39247_6 ?_
    refine kk_icmp_eq (tgt := 17) (by first | assumption | (unfold zr at *; omega)) (by first | assumption | (unfold zr at *; omega)) dJ7_copyOfRange_39247_7 (by decide) (fun h7 => ?_) (fun h7 => ?_)
    · obtain rfl : q = m := by omega
      refine kk_aloadN dJ7_copyOfRange_39247_17 rfl rfl ?_
      refine kk_clone rfl hF hby (fun _ => rfl) kclw (Nat.le_of_ble_eq_true rfl) ⟨Nat.le_of_ble_eq_true rfl, Nat.le_of_ble_eq_true rfl⟩ (by show _ ≤ _; simp only [kM, kRm]; omega) (by show _ ≤ _; simp only [kM, kRm]; omega) dJ7_copyOfRange_39247_18 (fun E18 z18 e18 k18 => ?_)
      have f18_0 := (k18 _ (List.getElem?_eq_some_iff.mp hF).1).trans hF
      refine kk_cast rfl e18 kct_RJ7_311 dJ7_copyOfRange_39247_21 ?_
      refine kk_aret rfl (by first | exact Or.inl ⟨_, rfl⟩ | exact Or.inr ⟨_, rfl⟩) dJ7_copyOfRange_39247_24 ?_ ?_ ?_ ?_
      · exact ⟨_, e18, fun j hj => rfl, k18⟩
      · omega
      · omega
      · omega
    · refine kk_aloadN dJ7_copyOfRange_39247_10 rfl rfl ?_
      refine kk_iloadN dJ7_copyOfRange_39247_11 rfl rfl ?_
      refine kk_iloadN dJ7_copyOfRange_39247_12 rfl rfl ?_
      refine kk_callS [zV0 (zB w + b), zi 0, zi ((q : Nat) : Int)] (kCORB hfl (by first | assumption | omega) (by first | assumption | omega) (by first | assumption | omega)) dJ7_copyOfRange_39247_13 cw_RJ7_339 okJ7_copyOfRangeByte_39247 rfl (Nat.le_of_ble_eq_true rfl) ⟨Nat.le_of_ble_eq_true rfl, Nat.le_of_ble_eq_true rfl, by show _ ≤ _; simp only [kM, kRm]; omega, by show _ ≤ _; simp only [kM, kRm]; omega⟩ (fun _ => rfl) (fun x q => by cases q; trivial) (fun E13 q13 z13 => ?_)
      obtain ⟨e13, k13⟩ := q13
      have f13_0 := (k13 _ (List.getElem?_eq_some_iff.mp hF).1).trans hF
      refine kk_aret rfl (by first | exact Or.inl ⟨_, rfl⟩ | exact Or.inr ⟨_, rfl⟩) dJ7_copyOfRange_39247_16 ?_ ?_ ?_ ?_
      · exact ⟨_, e13, fun j hj => cpy_0 hj, k13⟩
      · omega
      · omega
      · omega
set_option maxRecDepth 20000 in
set_option maxHeartbeats 2000000 in
theorem kSI2 {l : Launch} {w : zW} (hfl : l.stackTraces = false) {E : List va_E} {s a b m : Nat} {L : List Int} (hS : E[s]? = some (.inr (11, [.null, .int 0, .int 0, .int 0]))) (hB : BS w E a b m L) (hm : m ≤ 60000) : kSp l w mJ0_init_db425 5 1 L.length [zV0 (zB w + s), zV0 (zB w + a), .inr (.inr .null)] E (none) (fun E' => ∃ g, E'[s]? = some (.inr (11, [.ref (zB w + E.length), .int (Int32.ofInt 0), .int (Int32.ofInt 0), .int (Int32.ofInt 0)])) ∧ E'[E.length]? = some (.inl (zA w 1, L.length, .inl g)) ∧ (∀ j, j < L.length → g j = Int32.ofInt (L.getD j 0)) ∧ ∀ j, j < E.length → j ≠ s → E'[j]? = E[j]?) := by
  refine kk_enter hfl (by decide) rfl true (fun _ => rfl) 2 rfl ?_
  show zK l w mJ0_init_db425 _ true 0 [zV0 (zB w + s), zV0 (zB w + a), .inr (.inr .null), zu, zu] [] 0 0 E
  obtain ⟨hA, f, hF, hby, hf, hnm⟩ := id hB
  have hsa : s ≠ a := fun q => by
    rw [q, hA] at hS
    cases hS
  refine kk_aloadN dJ0_init_db425_0 rfl rfl ?_
  refine zk_obj ko_RJ0_1 (Nat.le_of_ble_eq_true rfl) ⟨Nat.le_of_ble_eq_true rfl, Nat.le_of_ble_eq_true rfl⟩ dJ0_init_db425_1 ?_
  refine kk_aloadN dJ0_init_db425_4 rfl rfl ?_
  refine kk_callU [] (kGetV hfl (by first | assumption | omega)) rfl hA dJ0_init_db425_5 ck_RJ0_552 okJ5_getValue_6d5f1 rfl (Nat.le_of_ble_eq_true rfl) ⟨Nat.le_of_ble_eq_true rfl, Nat.le_of_ble_eq_true rfl, by show _ ≤ _; simp only [kM, kRm]; omega, by show _ ≤ _; simp only [kM, kRm]; omega⟩ (fun _ => rfl) (fun x q => by cases q; trivial) (fun E5 q5 _ => ?_)
  rw [q5]
  refine kk_astoreN dJ0_init_db425_8 rfl (Nat.le_of_ble_eq_true rfl) (Nat.le_of_ble_eq_true rfl) rfl ?_
  refine kk_aloadN dJ0_init_db425_9 rfl rfl ?_
  refine kk_callU [] (kLenB hfl (by first | assumption | omega)) rfl hA dJ0_init_db425_10 ck_RJ0_549 okJ5_length_8abf5 rfl (Nat.le_of_ble_eq_true rfl) ⟨Nat.le_of_ble_eq_true rfl, Nat.le_of_ble_eq_true rfl, by show _ ≤ _; simp only [kM, kRm]; omega, by show _ ≤ _; simp only [kM, kRm]; omega⟩ (fun _ => rfl) (fun x q => by cases q; trivial) (fun E10 q10 _ => ?_)
  rw [q10]
  refine kj_istore [zV0 (zB w + s), zV0 (zB w + a), .inr (.inr .null), zV0 (zB w + b), zi ((L.length : Nat) : Int)] dJ0_init_db425_13 (Nat.le_of_ble_eq_true rfl) (Nat.le_of_ble_eq_true rfl) rfl rfl ?_
  refine kk_aloadN dJ0_init_db425_15 rfl rfl ?_
  refine kk_callU [] (kIsL hfl (by first | assumption | omega)) rfl hA dJ0_init_db425_16 ck_RJ0_1047 okJ5_isLatin1_aae02 rfl (Nat.le_of_ble_eq_true rfl) ⟨Nat.le_of_ble_eq_true rfl, Nat.le_of_ble_eq_true rfl, by show _ ≤ _; simp only [kM, kRm]; omega, by show _ ≤ _; simp only [kM, kRm]; omega⟩ (fun _ => rfl) (fun x q => by cases q; trivial) (fun E16 q16 _ => ?_)
  rw [q16]
  refine kk_if_eq (tgt := 41) (by first | assumption | (unfold zr at *; omega)) dJ0_init_db425_19 (by decide) (fun h19 => ?_) (fun h19 => ?_)
  · exact absurd h19 (by decide)
  · refine kk_aloadN dJ0_init_db425_22 rfl rfl ?_
    refine kk_iconst dJ0_init_db425_23 ?_
    refine kk_putf (ty := .byte) rfl kf_RJ0_15 hS (Nat.le_of_ble_eq_true rfl) (fun Cn T N q => by cases q; exact ⟨rfl, Or.inr ⟨rfl, rfl, rfl⟩⟩) rfl rfl dJ0_init_db425_24 (fun E24 z24 e24 k24 => ?_)
    have f24_1 := (k24 _ (by omega)).trans hA
    have f24_2 := (k24 _ (knq_bo hF hS)).trans hF
    refine kk_aloadN dJ0_init_db425_27 rfl rfl ?_
    refine kk_aloadN dJ0_init_db425_28 rfl rfl ?_
    refine kk_iconst dJ0_init_db425_29 ?_
    refine kk_iload dJ0_init_db425_30 rfl ?_
    refine kk_callS [zV0 (zB w + b), zi 0, zi ((L.length : Nat) : Int)] (kCOR hfl f24_2 hby ⟨hnm, hm⟩) dJ0_init_db425_32 cw_RJ0_54 okJ7_copyOfRange_39247 rfl (Nat.le_of_ble_eq_true rfl) ⟨Nat.le_of_ble_eq_true rfl, Nat.le_of_ble_eq_true rfl, by show _ ≤ _; simp only [kM, kRm]; omega, by show _ ≤ _; simp only [kM, kRm]; omega⟩ (fun _ => rfl) (fun x q => by cases q; trivial) (fun E32 q32 z32 => ?_)
    obtain ⟨g, e32, hg, k32⟩ := q32
    have f32_0 := (k32 _ (List.getElem?_eq_some_iff.mp e24).1).trans e24
    have f32_1 := (k32 _ (List.getElem?_eq_some_iff.mp f24_1).1).trans f24_1
    have f32_2 := (k32 _ (List.getElem?_eq_some_iff.mp f24_2).1).trans f24_2
    refine kk_putf (ty := .array .byte) rfl kf_RJ0_9 f32_0 (Nat.le_of_ble_eq_true rfl) (fun Cn T N q => by cases q; exact ⟨rfl, Or.inr ⟨rfl, rfl, rfl⟩⟩) rfl rfl dJ0_init_db425_35 (fun E35 z35 e35 k35 => ?_)
    have f35_1 := (k35 _ (by omega)).trans f32_1
    have f35_2 := (k35 _ (knq_bo f32_2 f32_0)).trans f32_2
    have f35_3 := (k35 _ (knq_bo e32 f32_0)).trans e32
    refine kk_goto (tgt := 97) dJ0_init_db425_38 (by decide) ?_
    refine kk_vret rfl dJ0_init_db425_97 ?_ ?_ ?_ ?_
    · exact ⟨g, by rw [z24] at e35; exact e35, by rw [← z24]; exact f35_3, fun j hj => (hg j hj).trans (hf j hj), fun j h1 h2 => (k35 j h2).trans ((k32 j (by omega)).trans (k24 j h2))⟩
    · omega
    · omega
    · omega
set_option maxRecDepth 20000 in
set_option maxHeartbeats 2000000 in
theorem kSI1 {l : Launch} {w : zW} (hfl : l.stackTraces = false) {E : List va_E} {s a b m : Nat} {L : List Int} (hS : E[s]? = some (.inr (11, [.null, .int 0, .int 0, .int 0]))) (hB : BS w E a b m L) (hm : m ≤ 60000) : kSp l w mJ0_init_81219 6 1 L.length [zV0 (zB w + s), zV0 (zB w + a)] E (none) (fun E' => ∃ g, E'[s]? = some (.inr (11, [.ref (zB w + E.length), .int (Int32.ofInt 0), .int (Int32.ofInt 0), .int (Int32.ofInt 0)])) ∧ E'[E.length]? = some (.inl (zA w 1, L.length, .inl g)) ∧ (∀ j, j < L.length → g j = Int32.ofInt (L.getD j 0)) ∧ ∀ j, j < E.length → j ≠ s → E'[j]? = E[j]?) := by
  refine kk_enter hfl (by decide) rfl true (fun _ => rfl) 0 rfl ?_
  show zK l w mJ0_init_81219 _ true 0 [zV0 (zB w + s), zV0 (zB w + a)] [] 0 0 E
  refine kk_aloadN dJ0_init_81219_0 rfl rfl ?_
  refine kk_aloadN dJ0_init_81219_1 rfl rfl ?_
  refine kk_null dJ0_init_81219_2 ?_
  refine kk_callI [zV0 (zB w + a), .inr (.inr .null)] (kSI2 hfl (by first | assumption | omega) (by first | assumption | omega) (by first | assumption | omega)) dJ0_init_81219_3 ck_RJ0_489 okJ0_init_db425 rfl rfl (Nat.le_of_ble_eq_true rfl) ⟨Nat.le_of_ble_eq_true rfl, Nat.le_of_ble_eq_true rfl, by show _ ≤ _; simp only [kM, kRm]; omega, by show _ ≤ _; simp only [kM, kRm]; omega⟩ (fun _ => rfl) (fun E3 q3 z3 => ?_)
  refine kk_vret rfl dJ0_init_81219_6 ?_ ?_ ?_ ?_
  · exact q3
  · omega
  · omega
  · omega
set_option maxRecDepth 20000 in
set_option maxHeartbeats 2000000 in
theorem kToS {l : Launch} {w : zW} (hfl : l.stackTraces = false) {E : List va_E} {a b m : Nat} {L : List Int} (hB : BS w E a b m L) (hm : m ≤ 60000) : kSp l w mJ4_toString_0e30d 7 2 (4 + L.length) [zV0 (zB w + a)] E (some (zV0 (zB w + E.length))) (fun E' => ∃ g, E'[E.length]? = some (.inr (11, [.ref (zB w + (E.length + 1)), .int (Int32.ofInt 0), .int (Int32.ofInt 0), .int (Int32.ofInt 0)])) ∧ E'[E.length + 1]? = some (.inl (zA w 1, L.length, .inl g)) ∧ (∀ j, j < L.length → g j = Int32.ofInt (L.getD j 0)) ∧ ∀ j, j < E.length → E'[j]? = E[j]?) := by
  refine kk_enter hfl (by decide) rfl false (fun q => absurd q (by decide)) 0 rfl ?_
  show zK l w mJ4_toString_0e30d _ false 0 [zV0 (zB w + a)] [] 0 0 E
  obtain ⟨hA, f, hF, hby, hf, hnm⟩ := id hB
  refine kk_new (t := 11) (N := 4) (fs := [.null, .int 0, .int 0, .int 0]) rfl (fun _ => rfl) rfl kn_RJ4_18 kin_11 kii_11 kfs_11 (by show _ ≤ _; simp only [kM, kRm]; omega) (by show _ ≤ _; simp only [kM, kRm]; omega) dJ4_toString_0e30d_0 (fun E0 z0 e0 k0 => ?_)
  have f0_0 := (k0 _ (List.getElem?_eq_some_iff.mp hA).1).trans hA
  have f0_1 := (k0 _ (List.getElem?_eq_some_iff.mp hF).1).trans hF
  have hB0 : BS w E0 a b m L := ⟨f0_0, f, f0_1, hby, hf, hnm⟩
  refine kk_dup rfl dJ4_toString_0e30d_3 ?_
  refine kk_aloadN dJ4_toString_0e30d_4 rfl rfl ?_
  refine kk_callI [zV0 (zB w + a)] (kSI1 hfl e0 hB0 (by first | assumption | omega)) dJ4_toString_0e30d_5 ck_RJ4_137 okJ0_init_81219 rfl rfl (Nat.le_of_ble_eq_true rfl) ⟨Nat.le_of_ble_eq_true rfl, Nat.le_of_ble_eq_true rfl, by show _ ≤ _; simp only [kM, kRm]; omega, by show _ ≤ _; simp only [kM, kRm]; omega⟩ (fun q => kne f0_0 q) (fun E5 q5 z5 => ?_)
  refine kk_aret rfl (by first | exact Or.inl ⟨_, rfl⟩ | exact Or.inr ⟨_, rfl⟩) dJ4_toString_0e30d_8 ?_ ?_ ?_ ?_
  · obtain ⟨g, g1, g2, g3, g4⟩ := q5
    rw [z0] at g1 g2
    exact ⟨g, g1, g2, g3, fun j hj => (g4 j (by omega) (by omega)).trans (k0 j hj)⟩
  · omega
  · omega
  · omega

