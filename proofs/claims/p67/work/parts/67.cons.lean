theorem ac_int : Cond.arrayClass .int ∈ zgood := zmem1 155 (by decide +kernel) rfl
theorem ac_byte : Cond.arrayClass .byte ∈ zgood := zmem1 84 (by decide +kernel) rfl
theorem ac_boolean : Cond.arrayClass .boolean ∈ zgood := zmem1 202 (by decide +kernel) rfl
abbrev mX0_init : zM := (yX0_init, cX0_init, 1, none, [])
theorem okX0_init : zMok mX0_init 0 := ⟨by decide, by decide, by decide +kernel⟩
theorem dX0_init_0 : decode cX0_init 0 = .ok (.aload_n 0, 1) := by decide +kernel
theorem ob_RX0_3 : ∀ x ∈ ([.methodLink RX0 3 Lib.objectInit, .instanceMethod Lib.objectInit, .code Lib.objectInit ⟨#[0xb1]⟩ 1 none] : List Cond), x ∈ zgood := zall [102, 53, 54] (by decide +kernel) (by decide +kernel)
theorem dX0_init_1 : decode cX0_init 1 = .ok (.invokespecial 3, 3) := by decide +kernel
theorem dX0_init_4 : decode cX0_init 4 = .ok (.aload_n 0, 1) := by decide +kernel
theorem dX0_init_5 : decode cX0_init 5 = .ok (.iconst 0, 1) := by decide +kernel
theorem dX0_init_6 : decode cX0_init 6 = .ok (.putfield 9, 3) := by decide +kernel
theorem dX0_init_9 : decode cX0_init 9 = .ok (.aload_n 0, 1) := by decide +kernel
theorem dX0_init_10 : decode cX0_init 10 = .ok (.bipush 8, 2) := by decide +kernel
theorem dX0_init_12 : decode cX0_init 12 = .ok (.newarray .int, 2) := by decide +kernel
theorem dX0_init_14 : decode cX0_init 14 = .ok (.putfield 15, 3) := by decide +kernel
theorem dX0_init_17 : decode cX0_init 17 = .ok (.aload_n 0, 1) := by decide +kernel
theorem dX0_init_18 : decode cX0_init 18 = .ok (.bipush 8, 2) := by decide +kernel
theorem dX0_init_20 : decode cX0_init 20 = .ok (.newarray .int, 2) := by decide +kernel
theorem dX0_init_22 : decode cX0_init 22 = .ok (.putfield 19, 3) := by decide +kernel
theorem dX0_init_25 : decode cX0_init 25 = .ok (.aload_n 0, 1) := by decide +kernel
theorem dX0_init_26 : decode cX0_init 26 = .ok (.bipush 8, 2) := by decide +kernel
theorem dX0_init_28 : decode cX0_init 28 = .ok (.newarray .int, 2) := by decide +kernel
theorem dX0_init_30 : decode cX0_init 30 = .ok (.putfield 22, 3) := by decide +kernel
theorem dX0_init_33 : decode cX0_init 33 = .ok (.aload_n 0, 1) := by decide +kernel
theorem dX0_init_34 : decode cX0_init 34 = .ok (.bipush 8, 2) := by decide +kernel
theorem dX0_init_36 : decode cX0_init 36 = .ok (.newarray .int, 2) := by decide +kernel
theorem dX0_init_38 : decode cX0_init 38 = .ok (.putfield 25, 3) := by decide +kernel
theorem dX0_init_41 : decode cX0_init 41 = .ok (.aload_n 0, 1) := by decide +kernel
theorem dX0_init_42 : decode cX0_init 42 = .ok (.bipush 8, 2) := by decide +kernel
theorem dX0_init_44 : decode cX0_init 44 = .ok (.newarray .int, 2) := by decide +kernel
theorem dX0_init_46 : decode cX0_init 46 = .ok (.putfield 28, 3) := by decide +kernel
theorem dX0_init_49 : decode cX0_init 49 = .ok (.aload_n 0, 1) := by decide +kernel
theorem dX0_init_50 : decode cX0_init 50 = .ok (.bipush 8, 2) := by decide +kernel
theorem dX0_init_52 : decode cX0_init 52 = .ok (.newarray .int, 2) := by decide +kernel
theorem dX0_init_54 : decode cX0_init 54 = .ok (.putfield 31, 3) := by decide +kernel
theorem dX0_init_57 : decode cX0_init 57 = .ok (.aload_n 0, 1) := by decide +kernel
theorem dX0_init_58 : decode cX0_init 58 = .ok (.iconst 0, 1) := by decide +kernel
theorem dX0_init_59 : decode cX0_init 59 = .ok (.putfield 34, 3) := by decide +kernel
theorem dX0_init_62 : decode cX0_init 62 = .ok (.aload_n 0, 1) := by decide +kernel
theorem dX0_init_63 : decode cX0_init 63 = .ok (.bipush 8, 2) := by decide +kernel
theorem dX0_init_65 : decode cX0_init 65 = .ok (.newarray .int, 2) := by decide +kernel
theorem dX0_init_67 : decode cX0_init 67 = .ok (.putfield 37, 3) := by decide +kernel
theorem dX0_init_70 : decode cX0_init 70 = .ok (.aload_n 0, 1) := by decide +kernel
theorem dX0_init_71 : decode cX0_init 71 = .ok (.bipush 8, 2) := by decide +kernel
theorem dX0_init_73 : decode cX0_init 73 = .ok (.newarray .int, 2) := by decide +kernel
theorem dX0_init_75 : decode cX0_init 75 = .ok (.putfield 40, 3) := by decide +kernel
theorem dX0_init_78 : decode cX0_init 78 = .ok (.aload_n 0, 1) := by decide +kernel
theorem dX0_init_79 : decode cX0_init 79 = .ok (.iconst 0, 1) := by decide +kernel
theorem dX0_init_80 : decode cX0_init 80 = .ok (.putfield 43, 3) := by decide +kernel
theorem dX0_init_83 : decode cX0_init 83 = .ok (.aload_n 0, 1) := by decide +kernel
theorem dX0_init_84 : decode cX0_init 84 = .ok (.bipush 12, 2) := by decide +kernel
theorem dX0_init_86 : decode cX0_init 86 = .ok (.newarray .int, 2) := by decide +kernel
theorem dX0_init_88 : decode cX0_init 88 = .ok (.putfield 46, 3) := by decide +kernel
theorem dX0_init_91 : decode cX0_init 91 = .ok (.aload_n 0, 1) := by decide +kernel
theorem dX0_init_92 : decode cX0_init 92 = .ok (.bipush 12, 2) := by decide +kernel
theorem dX0_init_94 : decode cX0_init 94 = .ok (.newarray .int, 2) := by decide +kernel
theorem dX0_init_96 : decode cX0_init 96 = .ok (.putfield 49, 3) := by decide +kernel
theorem dX0_init_99 : decode cX0_init 99 = .ok (.return_, 1) := by decide +kernel
abbrev mX2_init : zM := (yX2_init, cX2_init, 1, none, [])
theorem okX2_init : zMok mX2_init 0 := ⟨by decide, by decide, by decide +kernel⟩
theorem dX2_init_0 : decode cX2_init 0 = .ok (.aload_n 0, 1) := by decide +kernel
theorem ob_RX2_3 : ∀ x ∈ ([.methodLink RX2 3 Lib.objectInit, .instanceMethod Lib.objectInit, .code Lib.objectInit ⟨#[0xb1]⟩ 1 none] : List Cond), x ∈ zgood := zall [161, 53, 54] (by decide +kernel) (by decide +kernel)
theorem dX2_init_1 : decode cX2_init 1 = .ok (.invokespecial 3, 3) := by decide +kernel
theorem dX2_init_4 : decode cX2_init 4 = .ok (.aload_n 0, 1) := by decide +kernel
theorem dX2_init_5 : decode cX2_init 5 = .ok (.iconst 0, 1) := by decide +kernel
theorem dX2_init_6 : decode cX2_init 6 = .ok (.putfield 9, 3) := by decide +kernel
theorem dX2_init_9 : decode cX2_init 9 = .ok (.aload_n 0, 1) := by decide +kernel
theorem dX2_init_10 : decode cX2_init 10 = .ok (.bipush 40, 2) := by decide +kernel
theorem dX2_init_12 : decode cX2_init 12 = .ok (.newarray .int, 2) := by decide +kernel
theorem dX2_init_14 : decode cX2_init 14 = .ok (.putfield 15, 3) := by decide +kernel
theorem dX2_init_17 : decode cX2_init 17 = .ok (.aload_n 0, 1) := by decide +kernel
theorem dX2_init_18 : decode cX2_init 18 = .ok (.bipush 40, 2) := by decide +kernel
theorem dX2_init_20 : decode cX2_init 20 = .ok (.newarray .int, 2) := by decide +kernel
theorem dX2_init_22 : decode cX2_init 22 = .ok (.putfield 19, 3) := by decide +kernel
theorem dX2_init_25 : decode cX2_init 25 = .ok (.aload_n 0, 1) := by decide +kernel
theorem dX2_init_26 : decode cX2_init 26 = .ok (.bipush 40, 2) := by decide +kernel
theorem dX2_init_28 : decode cX2_init 28 = .ok (.newarray .int, 2) := by decide +kernel
theorem dX2_init_30 : decode cX2_init 30 = .ok (.putfield 22, 3) := by decide +kernel
theorem dX2_init_33 : decode cX2_init 33 = .ok (.aload_n 0, 1) := by decide +kernel
theorem dX2_init_34 : decode cX2_init 34 = .ok (.bipush 40, 2) := by decide +kernel
theorem dX2_init_36 : decode cX2_init 36 = .ok (.newarray .int, 2) := by decide +kernel
theorem dX2_init_38 : decode cX2_init 38 = .ok (.putfield 25, 3) := by decide +kernel
theorem dX2_init_41 : decode cX2_init 41 = .ok (.aload_n 0, 1) := by decide +kernel
theorem dX2_init_42 : decode cX2_init 42 = .ok (.bipush 40, 2) := by decide +kernel
theorem dX2_init_44 : decode cX2_init 44 = .ok (.newarray .boolean, 2) := by decide +kernel
theorem dX2_init_46 : decode cX2_init 46 = .ok (.putfield 28, 3) := by decide +kernel
theorem dX2_init_49 : decode cX2_init 49 = .ok (.aload_n 0, 1) := by decide +kernel
theorem dX2_init_50 : decode cX2_init 50 = .ok (.bipush 40, 2) := by decide +kernel
theorem dX2_init_52 : decode cX2_init 52 = .ok (.newarray .boolean, 2) := by decide +kernel
theorem dX2_init_54 : decode cX2_init 54 = .ok (.putfield 32, 3) := by decide +kernel
theorem dX2_init_57 : decode cX2_init 57 = .ok (.aload_n 0, 1) := by decide +kernel
theorem dX2_init_58 : decode cX2_init 58 = .ok (.bipush 40, 2) := by decide +kernel
theorem dX2_init_60 : decode cX2_init 60 = .ok (.newarray .int, 2) := by decide +kernel
theorem dX2_init_62 : decode cX2_init 62 = .ok (.putfield 35, 3) := by decide +kernel
theorem dX2_init_65 : decode cX2_init 65 = .ok (.return_, 1) := by decide +kernel
abbrev mX3_init : zM := (yX3_init, cX3_init, 1, none, [])
theorem okX3_init : zMok mX3_init 0 := ⟨by decide, by decide, by decide +kernel⟩
theorem dX3_init_0 : decode cX3_init 0 = .ok (.aload_n 0, 1) := by decide +kernel
theorem ob_RX3_3 : ∀ x ∈ ([.methodLink RX3 3 Lib.objectInit, .instanceMethod Lib.objectInit, .code Lib.objectInit ⟨#[0xb1]⟩ 1 none] : List Cond), x ∈ zgood := zall [226, 53, 54] (by decide +kernel) (by decide +kernel)
theorem dX3_init_1 : decode cX3_init 1 = .ok (.invokespecial 3, 3) := by decide +kernel
theorem dX3_init_4 : decode cX3_init 4 = .ok (.aload_n 0, 1) := by decide +kernel
theorem dX3_init_5 : decode cX3_init 5 = .ok (.iconst 0, 1) := by decide +kernel
theorem fl_RX3_9 : zFl RX3 9 3 0 := ⟨RX3, TX3, 6, rfl, by decide, zmem1 227 (by decide +kernel) rfl, rfl⟩
theorem dX3_init_6 : decode cX3_init 6 = .ok (.putfield 9, 3) := by decide +kernel
theorem dX3_init_9 : decode cX3_init 9 = .ok (.aload_n 0, 1) := by decide +kernel
theorem dX3_init_10 : decode cX3_init 10 = .ok (.bipush 30, 2) := by decide +kernel
theorem dX3_init_12 : decode cX3_init 12 = .ok (.newarray .int, 2) := by decide +kernel
theorem fl_RX3_15 : zFl RX3 15 3 1 := ⟨RX3, TX3, 6, rfl, by decide, zmem1 228 (by decide +kernel) rfl, rfl⟩
theorem dX3_init_14 : decode cX3_init 14 = .ok (.putfield 15, 3) := by decide +kernel
theorem dX3_init_17 : decode cX3_init 17 = .ok (.aload_n 0, 1) := by decide +kernel
theorem dX3_init_18 : decode cX3_init 18 = .ok (.bipush 30, 2) := by decide +kernel
theorem dX3_init_20 : decode cX3_init 20 = .ok (.newarray .int, 2) := by decide +kernel
theorem fl_RX3_19 : zFl RX3 19 3 2 := ⟨RX3, TX3, 6, rfl, by decide, zmem1 229 (by decide +kernel) rfl, rfl⟩
theorem dX3_init_22 : decode cX3_init 22 = .ok (.putfield 19, 3) := by decide +kernel
theorem dX3_init_25 : decode cX3_init 25 = .ok (.aload_n 0, 1) := by decide +kernel
theorem dX3_init_26 : decode cX3_init 26 = .ok (.bipush 30, 2) := by decide +kernel
theorem dX3_init_28 : decode cX3_init 28 = .ok (.newarray .int, 2) := by decide +kernel
theorem fl_RX3_22 : zFl RX3 22 3 3 := ⟨RX3, TX3, 6, rfl, by decide, zmem1 230 (by decide +kernel) rfl, rfl⟩
theorem dX3_init_30 : decode cX3_init 30 = .ok (.putfield 22, 3) := by decide +kernel
theorem dX3_init_33 : decode cX3_init 33 = .ok (.aload_n 0, 1) := by decide +kernel
theorem dX3_init_34 : decode cX3_init 34 = .ok (.bipush 30, 2) := by decide +kernel
theorem dX3_init_36 : decode cX3_init 36 = .ok (.newarray .int, 2) := by decide +kernel
theorem fl_RX3_25 : zFl RX3 25 3 4 := ⟨RX3, TX3, 6, rfl, by decide, zmem1 231 (by decide +kernel) rfl, rfl⟩
theorem dX3_init_38 : decode cX3_init 38 = .ok (.putfield 25, 3) := by decide +kernel
theorem dX3_init_41 : decode cX3_init 41 = .ok (.aload_n 0, 1) := by decide +kernel
theorem dX3_init_42 : decode cX3_init 42 = .ok (.bipush 30, 2) := by decide +kernel
theorem dX3_init_44 : decode cX3_init 44 = .ok (.newarray .int, 2) := by decide +kernel
theorem fl_RX3_28 : zFl RX3 28 3 5 := ⟨RX3, TX3, 6, rfl, by decide, zmem1 232 (by decide +kernel) rfl, rfl⟩
theorem dX3_init_46 : decode cX3_init 46 = .ok (.putfield 28, 3) := by decide +kernel
theorem dX3_init_49 : decode cX3_init 49 = .ok (.return_, 1) := by decide +kernel
abbrev mX6_init : zM := (yX6_init, cX6_init, 1, none, [])
theorem okX6_init : zMok mX6_init 0 := ⟨by decide, by decide, by decide +kernel⟩
theorem dX6_init_0 : decode cX6_init 0 = .ok (.aload_n 0, 1) := by decide +kernel
theorem ob_RX6_3 : ∀ x ∈ ([.methodLink RX6 3 Lib.objectInit, .instanceMethod Lib.objectInit, .code Lib.objectInit ⟨#[0xb1]⟩ 1 none] : List Cond), x ∈ zgood := zall [60, 53, 54] (by decide +kernel) (by decide +kernel)
theorem dX6_init_1 : decode cX6_init 1 = .ok (.invokespecial 3, 3) := by decide +kernel
theorem dX6_init_4 : decode cX6_init 4 = .ok (.aload_n 0, 1) := by decide +kernel
theorem dX6_init_5 : decode cX6_init 5 = .ok (.sipush 1400, 3) := by decide +kernel
theorem dX6_init_8 : decode cX6_init 8 = .ok (.newarray .byte, 2) := by decide +kernel
theorem dX6_init_10 : decode cX6_init 10 = .ok (.putfield 9, 3) := by decide +kernel
theorem dX6_init_13 : decode cX6_init 13 = .ok (.aload_n 0, 1) := by decide +kernel
theorem dX6_init_14 : decode cX6_init 14 = .ok (.iconst 0, 1) := by decide +kernel
theorem dX6_init_15 : decode cX6_init 15 = .ok (.putfield 15, 3) := by decide +kernel
theorem dX6_init_18 : decode cX6_init 18 = .ok (.aload_n 0, 1) := by decide +kernel
theorem dX6_init_19 : decode cX6_init 19 = .ok (.iconst 0, 1) := by decide +kernel
theorem dX6_init_20 : decode cX6_init 20 = .ok (.putfield 19, 3) := by decide +kernel
theorem dX6_init_23 : decode cX6_init 23 = .ok (.aload_n 0, 1) := by decide +kernel
theorem dX6_init_24 : decode cX6_init 24 = .ok (.iconst 0, 1) := by decide +kernel
theorem dX6_init_25 : decode cX6_init 25 = .ok (.putfield 22, 3) := by decide +kernel
theorem dX6_init_28 : decode cX6_init 28 = .ok (.aload_n 0, 1) := by decide +kernel
theorem dX6_init_29 : decode cX6_init 29 = .ok (.iconst 0, 1) := by decide +kernel
theorem dX6_init_30 : decode cX6_init 30 = .ok (.putfield 25, 3) := by decide +kernel
theorem dX6_init_33 : decode cX6_init 33 = .ok (.aload_n 0, 1) := by decide +kernel
theorem dX6_init_34 : decode cX6_init 34 = .ok (.iconst 0, 1) := by decide +kernel
theorem dX6_init_35 : decode cX6_init 35 = .ok (.putfield 28, 3) := by decide +kernel
theorem dX6_init_38 : decode cX6_init 38 = .ok (.aload_n 0, 1) := by decide +kernel
theorem dX6_init_39 : decode cX6_init 39 = .ok (.iconst (-1), 1) := by decide +kernel
theorem dX6_init_40 : decode cX6_init 40 = .ok (.putfield 31, 3) := by decide +kernel
theorem dX6_init_43 : decode cX6_init 43 = .ok (.return_, 1) := by decide +kernel
abbrev mX7_init : zM := (yX7_init, cX7_init, 1, none, [])
theorem okX7_init : zMok mX7_init 0 := ⟨by decide, by decide, by decide +kernel⟩
theorem dX7_init_0 : decode cX7_init 0 = .ok (.aload_n 0, 1) := by decide +kernel
theorem ob_RX7_3 : ∀ x ∈ ([.methodLink RX7 3 Lib.objectInit, .instanceMethod Lib.objectInit, .code Lib.objectInit ⟨#[0xb1]⟩ 1 none] : List Cond), x ∈ zgood := zall [273, 53, 54] (by decide +kernel) (by decide +kernel)
theorem dX7_init_1 : decode cX7_init 1 = .ok (.invokespecial 3, 3) := by decide +kernel
theorem dX7_init_4 : decode cX7_init 4 = .ok (.aload_n 0, 1) := by decide +kernel
theorem dX7_init_5 : decode cX7_init 5 = .ok (.bipush 40, 2) := by decide +kernel
theorem dX7_init_7 : decode cX7_init 7 = .ok (.newarray .boolean, 2) := by decide +kernel
theorem dX7_init_9 : decode cX7_init 9 = .ok (.putfield 9, 3) := by decide +kernel
theorem dX7_init_12 : decode cX7_init 12 = .ok (.aload_n 0, 1) := by decide +kernel
theorem dX7_init_13 : decode cX7_init 13 = .ok (.sipush 551, 3) := by decide +kernel
theorem dX7_init_16 : decode cX7_init 16 = .ok (.newarray .int, 2) := by decide +kernel
theorem dX7_init_18 : decode cX7_init 18 = .ok (.putfield 15, 3) := by decide +kernel
theorem dX7_init_21 : decode cX7_init 21 = .ok (.aload_n 0, 1) := by decide +kernel
theorem dX7_init_22 : decode cX7_init 22 = .ok (.bipush 8, 2) := by decide +kernel
theorem dX7_init_24 : decode cX7_init 24 = .ok (.newarray .int, 2) := by decide +kernel
theorem dX7_init_26 : decode cX7_init 26 = .ok (.putfield 19, 3) := by decide +kernel
theorem dX7_init_29 : decode cX7_init 29 = .ok (.aload_n 0, 1) := by decide +kernel
theorem dX7_init_30 : decode cX7_init 30 = .ok (.bipush 8, 2) := by decide +kernel
theorem dX7_init_32 : decode cX7_init 32 = .ok (.newarray .int, 2) := by decide +kernel
theorem dX7_init_34 : decode cX7_init 34 = .ok (.putfield 22, 3) := by decide +kernel
theorem dX7_init_37 : decode cX7_init 37 = .ok (.aload_n 0, 1) := by decide +kernel
theorem dX7_init_38 : decode cX7_init 38 = .ok (.bipush 8, 2) := by decide +kernel
theorem dX7_init_40 : decode cX7_init 40 = .ok (.newarray .int, 2) := by decide +kernel
theorem dX7_init_42 : decode cX7_init 42 = .ok (.putfield 25, 3) := by decide +kernel
theorem dX7_init_45 : decode cX7_init 45 = .ok (.aload_n 0, 1) := by decide +kernel
theorem dX7_init_46 : decode cX7_init 46 = .ok (.iconst 0, 1) := by decide +kernel
theorem dX7_init_47 : decode cX7_init 47 = .ok (.putfield 28, 3) := by decide +kernel
theorem dX7_init_50 : decode cX7_init 50 = .ok (.aload_n 0, 1) := by decide +kernel
theorem dX7_init_51 : decode cX7_init 51 = .ok (.bipush 8, 2) := by decide +kernel
theorem dX7_init_53 : decode cX7_init 53 = .ok (.newarray .int, 2) := by decide +kernel
theorem dX7_init_55 : decode cX7_init 55 = .ok (.putfield 32, 3) := by decide +kernel
theorem dX7_init_58 : decode cX7_init 58 = .ok (.return_, 1) := by decide +kernel
abbrev mX8_init : zM := (yX8_init, cX8_init, 1, none, [])
theorem okX8_init : zMok mX8_init 0 := ⟨by decide, by decide, by decide +kernel⟩
theorem dX8_init_0 : decode cX8_init 0 = .ok (.aload_n 0, 1) := by decide +kernel
theorem ob_RX8_3 : ∀ x ∈ ([.methodLink RX8 3 Lib.objectInit, .instanceMethod Lib.objectInit, .code Lib.objectInit ⟨#[0xb1]⟩ 1 none] : List Cond), x ∈ zgood := zall [304, 53, 54] (by decide +kernel) (by decide +kernel)
theorem dX8_init_1 : decode cX8_init 1 = .ok (.invokespecial 3, 3) := by decide +kernel
theorem dX8_init_4 : decode cX8_init 4 = .ok (.aload_n 0, 1) := by decide +kernel
theorem dX8_init_5 : decode cX8_init 5 = .ok (.sipush 131, 3) := by decide +kernel
theorem dX8_init_8 : decode cX8_init 8 = .ok (.newarray .byte, 2) := by decide +kernel
theorem fl_RX8_9 : zFl RX8 9 8 0 := ⟨RX8, TX8, 2, rfl, by decide, zmem1 305 (by decide +kernel) rfl, rfl⟩
theorem dX8_init_10 : decode cX8_init 10 = .ok (.putfield 9, 3) := by decide +kernel
theorem dX8_init_13 : decode cX8_init 13 = .ok (.aload_n 0, 1) := by decide +kernel
theorem dX8_init_14 : decode cX8_init 14 = .ok (.iconst 0, 1) := by decide +kernel
theorem fl_RX8_15 : zFl RX8 15 8 1 := ⟨RX8, TX8, 2, rfl, by decide, zmem1 306 (by decide +kernel) rfl, rfl⟩
theorem dX8_init_15 : decode cX8_init 15 = .ok (.putfield 15, 3) := by decide +kernel
theorem dX8_init_18 : decode cX8_init 18 = .ok (.return_, 1) := by decide +kernel
abbrev mX1_init : zM := (yX1_init, cX1_init, 1, none, [])
theorem okX1_init : zMok mX1_init 0 := ⟨by decide, by decide, by decide +kernel⟩
theorem dX1_init_0 : decode cX1_init 0 = .ok (.aload_n 0, 1) := by decide +kernel
theorem ob_RX1_3 : ∀ x ∈ ([.methodLink RX1 3 Lib.objectInit, .instanceMethod Lib.objectInit, .code Lib.objectInit ⟨#[0xb1]⟩ 1 none] : List Cond), x ∈ zgood := zall [96, 53, 54] (by decide +kernel) (by decide +kernel)
theorem dX1_init_1 : decode cX1_init 1 = .ok (.invokespecial 3, 3) := by decide +kernel
theorem dX1_init_4 : decode cX1_init 4 = .ok (.aload_n 0, 1) := by decide +kernel
theorem kl_RX1_9 : Cond.classLink RX1 9 RX0 ∈ zgood := zmem1 97 (by decide +kernel) rfl
theorem it_X0 : Cond.instantiable RX0 13 ∈ zgood := zmem1 98 (by decide +kernel) rfl
theorem iz_X0 : Cond.initialized RX0 ∈ zgood := zmem1 35 (by decide +kernel) rfl
theorem df_X0 : ∀ ty : Nat → FieldType, (∀ k, k < 13 → parseFieldDescriptor (TX0 k).2.2.1 = some (ty k)) → ∀ j, j < 13 → defaultValue (ty j) = vp_V [Value.int 0, Value.null, Value.null, Value.null, Value.null, Value.null, Value.null, Value.int 0, Value.null, Value.null, Value.int 0, Value.null, Value.null] j := fun ty hty j hj => by
  rw [Option.some.inj ((hty j hj).symm.trans (tyX0_ok j hj))]
  exact (by decide +kernel : ∀ j, j < 13 → defaultValue (tyX0 j) = vp_V [Value.int 0, Value.null, Value.null, Value.null, Value.null, Value.null, Value.null, Value.int 0, Value.null, Value.null, Value.int 0, Value.null, Value.null] j) j hj
theorem dX1_init_5 : decode cX1_init 5 = .ok (.new 9, 3) := by decide +kernel
theorem dX1_init_8 : decode cX1_init 8 = .ok (.dup, 1) := by decide +kernel
theorem dX1_init_9 : decode cX1_init 9 = .ok (.invokespecial 11, 3) := by decide +kernel
theorem cn_RX1_11 : (∃ host, (RX1, 11, yX0_init, host) ∈ znest) ∧ ∀ x ∈ ([.instanceMethod yX0_init, .initialized yX0_init.cls, .code yX0_init cX0_init 1 none] : List Cond), x ∈ zgood := ⟨⟨_, List.mem_of_getElem? (i := 3) rfl⟩, zall [100, 35, 101] (by decide +kernel) (by decide +kernel)⟩
theorem dX1_init_12 : decode cX1_init 12 = .ok (.putfield 12, 3) := by decide +kernel
theorem dX1_init_15 : decode cX1_init 15 = .ok (.aload_n 0, 1) := by decide +kernel
theorem kl_RX1_18 : Cond.classLink RX1 18 RX2 ∈ zgood := zmem1 156 (by decide +kernel) rfl
theorem it_X2 : Cond.instantiable RX2 8 ∈ zgood := zmem1 157 (by decide +kernel) rfl
theorem iz_X2 : Cond.initialized RX2 ∈ zgood := zmem1 36 (by decide +kernel) rfl
theorem df_X2 : ∀ ty : Nat → FieldType, (∀ k, k < 8 → parseFieldDescriptor (TX2 k).2.2.1 = some (ty k)) → ∀ j, j < 8 → defaultValue (ty j) = vp_V [Value.int 0, Value.null, Value.null, Value.null, Value.null, Value.null, Value.null, Value.null] j := fun ty hty j hj => by
  rw [Option.some.inj ((hty j hj).symm.trans (tyX2_ok j hj))]
  exact (by decide +kernel : ∀ j, j < 8 → defaultValue (tyX2 j) = vp_V [Value.int 0, Value.null, Value.null, Value.null, Value.null, Value.null, Value.null, Value.null] j) j hj
theorem dX1_init_16 : decode cX1_init 16 = .ok (.new 18, 3) := by decide +kernel
theorem dX1_init_19 : decode cX1_init 19 = .ok (.dup, 1) := by decide +kernel
theorem dX1_init_20 : decode cX1_init 20 = .ok (.invokespecial 20, 3) := by decide +kernel
theorem cn_RX1_20 : (∃ host, (RX1, 20, yX2_init, host) ∈ znest) ∧ ∀ x ∈ ([.instanceMethod yX2_init, .initialized yX2_init.cls, .code yX2_init cX2_init 1 none] : List Cond), x ∈ zgood := ⟨⟨_, List.mem_of_getElem? (i := 4) rfl⟩, zall [159, 36, 160] (by decide +kernel) (by decide +kernel)⟩
theorem dX1_init_23 : decode cX1_init 23 = .ok (.putfield 21, 3) := by decide +kernel
theorem dX1_init_26 : decode cX1_init 26 = .ok (.return_, 1) := by decide +kernel
abbrev mX4_init : zM := (yX4_init, cX4_init, 1, none, [])
theorem okX4_init : zMok mX4_init 0 := ⟨by decide, by decide, by decide +kernel⟩
theorem dX4_init_0 : decode cX4_init 0 = .ok (.aload_n 0, 1) := by decide +kernel
theorem ob_RX4_3 : ∀ x ∈ ([.methodLink RX4 3 Lib.objectInit, .instanceMethod Lib.objectInit, .code Lib.objectInit ⟨#[0xb1]⟩ 1 none] : List Cond), x ∈ zgood := zall [90, 53, 54] (by decide +kernel) (by decide +kernel)
theorem dX4_init_1 : decode cX4_init 1 = .ok (.invokespecial 3, 3) := by decide +kernel
theorem dX4_init_4 : decode cX4_init 4 = .ok (.aload_n 0, 1) := by decide +kernel
theorem kl_RX4_9 : Cond.classLink RX4 9 RX1 ∈ zgood := zmem1 91 (by decide +kernel) rfl
theorem it_X1 : Cond.instantiable RX1 2 ∈ zgood := zmem1 92 (by decide +kernel) rfl
theorem iz_X1 : Cond.initialized RX1 ∈ zgood := zmem1 34 (by decide +kernel) rfl
theorem df_X1 : ∀ ty : Nat → FieldType, (∀ k, k < 2 → parseFieldDescriptor (TX1 k).2.2.1 = some (ty k)) → ∀ j, j < 2 → defaultValue (ty j) = vp_V [Value.null, Value.null] j := fun ty hty j hj => by
  rw [Option.some.inj ((hty j hj).symm.trans (tyX1_ok j hj))]
  exact (by decide +kernel : ∀ j, j < 2 → defaultValue (tyX1 j) = vp_V [Value.null, Value.null] j) j hj
theorem dX4_init_5 : decode cX4_init 5 = .ok (.new 9, 3) := by decide +kernel
theorem dX4_init_8 : decode cX4_init 8 = .ok (.dup, 1) := by decide +kernel
theorem dX4_init_9 : decode cX4_init 9 = .ok (.invokespecial 11, 3) := by decide +kernel
theorem cn_RX4_11 : (∃ host, (RX4, 11, yX1_init, host) ∈ znest) ∧ ∀ x ∈ ([.instanceMethod yX1_init, .initialized yX1_init.cls, .code yX1_init cX1_init 1 none] : List Cond), x ∈ zgood := ⟨⟨_, List.mem_of_getElem? (i := 2) rfl⟩, zall [94, 34, 95] (by decide +kernel) (by decide +kernel)⟩
theorem dX4_init_12 : decode cX4_init 12 = .ok (.putfield 12, 3) := by decide +kernel
theorem dX4_init_15 : decode cX4_init 15 = .ok (.return_, 1) := by decide +kernel

set_option maxRecDepth 20000 in
set_option maxHeartbeats 4000000 in
theorem con_X0 {l : Launch} {w : zW} (hfl : l.stackTraces = false) {σ : zS} {pre : List va_E} (hσ : ∀ j, pre.length ≤ j → j < pre.length + 11 → ∀ i, σ.1 j i = 0) : zCon l w mX0_init 1 10 88 pre (.inr (0, [Value.int 0, Value.null, Value.null, Value.null, Value.null, Value.null, Value.null, Value.int 0, Value.null, Value.null, Value.int 0, Value.null, Value.null])) (zRs w (fun _ : Unit => True) (fun _ => pre ++ eL w σ (0 :: [21, 21, 21, 21, 21, 21, 21, 21, 22, 22]) pre.length)) := by
  refine zk_enter hfl (by decide) rfl rfl 0 rfl ?_
  show zK l w mX0_init _ true 0 (zV0 (zB w + pre.length) :: []) [] 0 0 (eX w σ pre 0 [Value.int 0, Value.null, Value.null, Value.null, Value.null, Value.null, Value.null, Value.int 0, Value.null, Value.null, Value.int 0, Value.null, Value.null] [])
  refine zk_aloadN dX0_init_0 rfl rfl ?_
  refine zk_obj ob_RX0_3 (Nat.le_of_ble_eq_true rfl) ⟨(Nat.le_of_ble_eq_true rfl), (Nat.le_of_ble_eq_true rfl)⟩ dX0_init_1 ?_
  refine zk_aloadN dX0_init_4 rfl rfl ?_
  refine zk_iconst dX0_init_5 ?_
  refine kx_put (ty := .int) fl_RX0_9 (Nat.le_of_ble_eq_true rfl) (fun _ _ _ h => by cases h; exact ⟨by decide +kernel, Or.inl rfl⟩) rfl rfl dX0_init_6 (fs' := [Value.int (Int32.ofInt 0), Value.null, Value.null, Value.null, Value.null, Value.null, Value.null, Value.int 0, Value.null, Value.null, Value.int 0, Value.null, Value.null]) rfl ?_
  refine zk_aloadN dX0_init_9 rfl rfl ?_
  refine zk_bipush dX0_init_10 rfl ?_
  refine kx_newa (g := 21) (n := 8) (q := 0) (a := zB w + (pre.length + 1)) (T' := [21]) rfl ac_int rfl rfl (fun _ _ h => h) rfl (by decide) rfl (by decide) (by decide) (hσ (pre.length + 1) (by omega) (by omega)) (by decide) (by decide) (Nat.le_of_ble_eq_true rfl) (Nat.le_of_ble_eq_true rfl) (Nat.le_of_ble_eq_true rfl) dX0_init_12 rfl ?_
  refine kx_put (ty := (.array .int)) fl_RX0_15 (Nat.le_of_ble_eq_true rfl) (fun _ _ _ h => by cases h; exact ⟨by decide +kernel, Or.inr ⟨rfl, rfl, rfl⟩⟩) rfl rfl dX0_init_14 (fs' := [Value.int (Int32.ofInt 0), Value.ref (zB w + (pre.length + 1)), Value.null, Value.null, Value.null, Value.null, Value.null, Value.int 0, Value.null, Value.null, Value.int 0, Value.null, Value.null]) rfl ?_
  refine zk_aloadN dX0_init_17 rfl rfl ?_
  refine zk_bipush dX0_init_18 rfl ?_
  refine kx_newa (g := 21) (n := 8) (q := 0) (a := zB w + (pre.length + 2)) (T' := [21, 21]) rfl ac_int rfl rfl (fun _ _ h => h) rfl (by decide) rfl (by decide) (by decide) (hσ (pre.length + 2) (by omega) (by omega)) (by decide) (by decide) (Nat.le_of_ble_eq_true rfl) (Nat.le_of_ble_eq_true rfl) (Nat.le_of_ble_eq_true rfl) dX0_init_20 rfl ?_
  refine kx_put (ty := (.array .int)) fl_RX0_19 (Nat.le_of_ble_eq_true rfl) (fun _ _ _ h => by cases h; exact ⟨by decide +kernel, Or.inr ⟨rfl, rfl, rfl⟩⟩) rfl rfl dX0_init_22 (fs' := [Value.int (Int32.ofInt 0), Value.ref (zB w + (pre.length + 1)), Value.ref (zB w + (pre.length + 2)), Value.null, Value.null, Value.null, Value.null, Value.int 0, Value.null, Value.null, Value.int 0, Value.null, Value.null]) rfl ?_
  refine zk_aloadN dX0_init_25 rfl rfl ?_
  refine zk_bipush dX0_init_26 rfl ?_
  refine kx_newa (g := 21) (n := 8) (q := 0) (a := zB w + (pre.length + 3)) (T' := [21, 21, 21]) rfl ac_int rfl rfl (fun _ _ h => h) rfl (by decide) rfl (by decide) (by decide) (hσ (pre.length + 3) (by omega) (by omega)) (by decide) (by decide) (Nat.le_of_ble_eq_true rfl) (Nat.le_of_ble_eq_true rfl) (Nat.le_of_ble_eq_true rfl) dX0_init_28 rfl ?_
  refine kx_put (ty := (.array .int)) fl_RX0_22 (Nat.le_of_ble_eq_true rfl) (fun _ _ _ h => by cases h; exact ⟨by decide +kernel, Or.inr ⟨rfl, rfl, rfl⟩⟩) rfl rfl dX0_init_30 (fs' := [Value.int (Int32.ofInt 0), Value.ref (zB w + (pre.length + 1)), Value.ref (zB w + (pre.length + 2)), Value.ref (zB w + (pre.length + 3)), Value.null, Value.null, Value.null, Value.int 0, Value.null, Value.null, Value.int 0, Value.null, Value.null]) rfl ?_
  refine zk_aloadN dX0_init_33 rfl rfl ?_
  refine zk_bipush dX0_init_34 rfl ?_
  refine kx_newa (g := 21) (n := 8) (q := 0) (a := zB w + (pre.length + 4)) (T' := [21, 21, 21, 21]) rfl ac_int rfl rfl (fun _ _ h => h) rfl (by decide) rfl (by decide) (by decide) (hσ (pre.length + 4) (by omega) (by omega)) (by decide) (by decide) (Nat.le_of_ble_eq_true rfl) (Nat.le_of_ble_eq_true rfl) (Nat.le_of_ble_eq_true rfl) dX0_init_36 rfl ?_
  refine kx_put (ty := (.array .int)) fl_RX0_25 (Nat.le_of_ble_eq_true rfl) (fun _ _ _ h => by cases h; exact ⟨by decide +kernel, Or.inr ⟨rfl, rfl, rfl⟩⟩) rfl rfl dX0_init_38 (fs' := [Value.int (Int32.ofInt 0), Value.ref (zB w + (pre.length + 1)), Value.ref (zB w + (pre.length + 2)), Value.ref (zB w + (pre.length + 3)), Value.ref (zB w + (pre.length + 4)), Value.null, Value.null, Value.int 0, Value.null, Value.null, Value.int 0, Value.null, Value.null]) rfl ?_
  refine zk_aloadN dX0_init_41 rfl rfl ?_
  refine zk_bipush dX0_init_42 rfl ?_
  refine kx_newa (g := 21) (n := 8) (q := 0) (a := zB w + (pre.length + 5)) (T' := [21, 21, 21, 21, 21]) rfl ac_int rfl rfl (fun _ _ h => h) rfl (by decide) rfl (by decide) (by decide) (hσ (pre.length + 5) (by omega) (by omega)) (by decide) (by decide) (Nat.le_of_ble_eq_true rfl) (Nat.le_of_ble_eq_true rfl) (Nat.le_of_ble_eq_true rfl) dX0_init_44 rfl ?_
  refine kx_put (ty := (.array .int)) fl_RX0_28 (Nat.le_of_ble_eq_true rfl) (fun _ _ _ h => by cases h; exact ⟨by decide +kernel, Or.inr ⟨rfl, rfl, rfl⟩⟩) rfl rfl dX0_init_46 (fs' := [Value.int (Int32.ofInt 0), Value.ref (zB w + (pre.length + 1)), Value.ref (zB w + (pre.length + 2)), Value.ref (zB w + (pre.length + 3)), Value.ref (zB w + (pre.length + 4)), Value.ref (zB w + (pre.length + 5)), Value.null, Value.int 0, Value.null, Value.null, Value.int 0, Value.null, Value.null]) rfl ?_
  refine zk_aloadN dX0_init_49 rfl rfl ?_
  refine zk_bipush dX0_init_50 rfl ?_
  refine kx_newa (g := 21) (n := 8) (q := 0) (a := zB w + (pre.length + 6)) (T' := [21, 21, 21, 21, 21, 21]) rfl ac_int rfl rfl (fun _ _ h => h) rfl (by decide) rfl (by decide) (by decide) (hσ (pre.length + 6) (by omega) (by omega)) (by decide) (by decide) (Nat.le_of_ble_eq_true rfl) (Nat.le_of_ble_eq_true rfl) (Nat.le_of_ble_eq_true rfl) dX0_init_52 rfl ?_
  refine kx_put (ty := (.array .int)) fl_RX0_31 (Nat.le_of_ble_eq_true rfl) (fun _ _ _ h => by cases h; exact ⟨by decide +kernel, Or.inr ⟨rfl, rfl, rfl⟩⟩) rfl rfl dX0_init_54 (fs' := [Value.int (Int32.ofInt 0), Value.ref (zB w + (pre.length + 1)), Value.ref (zB w + (pre.length + 2)), Value.ref (zB w + (pre.length + 3)), Value.ref (zB w + (pre.length + 4)), Value.ref (zB w + (pre.length + 5)), Value.ref (zB w + (pre.length + 6)), Value.int 0, Value.null, Value.null, Value.int 0, Value.null, Value.null]) rfl ?_
  refine zk_aloadN dX0_init_57 rfl rfl ?_
  refine zk_iconst dX0_init_58 ?_
  refine kx_put (ty := .int) fl_RX0_34 (Nat.le_of_ble_eq_true rfl) (fun _ _ _ h => by cases h; exact ⟨by decide +kernel, Or.inl rfl⟩) rfl rfl dX0_init_59 (fs' := [Value.int (Int32.ofInt 0), Value.ref (zB w + (pre.length + 1)), Value.ref (zB w + (pre.length + 2)), Value.ref (zB w + (pre.length + 3)), Value.ref (zB w + (pre.length + 4)), Value.ref (zB w + (pre.length + 5)), Value.ref (zB w + (pre.length + 6)), Value.int (Int32.ofInt 0), Value.null, Value.null, Value.int 0, Value.null, Value.null]) rfl ?_
  refine zk_aloadN dX0_init_62 rfl rfl ?_
  refine zk_bipush dX0_init_63 rfl ?_
  refine kx_newa (g := 21) (n := 8) (q := 0) (a := zB w + (pre.length + 7)) (T' := [21, 21, 21, 21, 21, 21, 21]) rfl ac_int rfl rfl (fun _ _ h => h) rfl (by decide) rfl (by decide) (by decide) (hσ (pre.length + 7) (by omega) (by omega)) (by decide) (by decide) (Nat.le_of_ble_eq_true rfl) (Nat.le_of_ble_eq_true rfl) (Nat.le_of_ble_eq_true rfl) dX0_init_65 rfl ?_
  refine kx_put (ty := (.array .int)) fl_RX0_37 (Nat.le_of_ble_eq_true rfl) (fun _ _ _ h => by cases h; exact ⟨by decide +kernel, Or.inr ⟨rfl, rfl, rfl⟩⟩) rfl rfl dX0_init_67 (fs' := [Value.int (Int32.ofInt 0), Value.ref (zB w + (pre.length + 1)), Value.ref (zB w + (pre.length + 2)), Value.ref (zB w + (pre.length + 3)), Value.ref (zB w + (pre.length + 4)), Value.ref (zB w + (pre.length + 5)), Value.ref (zB w + (pre.length + 6)), Value.int (Int32.ofInt 0), Value.ref (zB w + (pre.length + 7)), Value.null, Value.int 0, Value.null, Value.null]) rfl ?_
  refine zk_aloadN dX0_init_70 rfl rfl ?_
  refine zk_bipush dX0_init_71 rfl ?_
  refine kx_newa (g := 21) (n := 8) (q := 0) (a := zB w + (pre.length + 8)) (T' := [21, 21, 21, 21, 21, 21, 21, 21]) rfl ac_int rfl rfl (fun _ _ h => h) rfl (by decide) rfl (by decide) (by decide) (hσ (pre.length + 8) (by omega) (by omega)) (by decide) (by decide) (Nat.le_of_ble_eq_true rfl) (Nat.le_of_ble_eq_true rfl) (Nat.le_of_ble_eq_true rfl) dX0_init_73 rfl ?_
  refine kx_put (ty := (.array .int)) fl_RX0_40 (Nat.le_of_ble_eq_true rfl) (fun _ _ _ h => by cases h; exact ⟨by decide +kernel, Or.inr ⟨rfl, rfl, rfl⟩⟩) rfl rfl dX0_init_75 (fs' := [Value.int (Int32.ofInt 0), Value.ref (zB w + (pre.length + 1)), Value.ref (zB w + (pre.length + 2)), Value.ref (zB w + (pre.length + 3)), Value.ref (zB w + (pre.length + 4)), Value.ref (zB w + (pre.length + 5)), Value.ref (zB w + (pre.length + 6)), Value.int (Int32.ofInt 0), Value.ref (zB w + (pre.length + 7)), Value.ref (zB w + (pre.length + 8)), Value.int 0, Value.null, Value.null]) rfl ?_
  refine zk_aloadN dX0_init_78 rfl rfl ?_
  refine zk_iconst dX0_init_79 ?_
  refine kx_put (ty := .int) fl_RX0_43 (Nat.le_of_ble_eq_true rfl) (fun _ _ _ h => by cases h; exact ⟨by decide +kernel, Or.inl rfl⟩) rfl rfl dX0_init_80 (fs' := [Value.int (Int32.ofInt 0), Value.ref (zB w + (pre.length + 1)), Value.ref (zB w + (pre.length + 2)), Value.ref (zB w + (pre.length + 3)), Value.ref (zB w + (pre.length + 4)), Value.ref (zB w + (pre.length + 5)), Value.ref (zB w + (pre.length + 6)), Value.int (Int32.ofInt 0), Value.ref (zB w + (pre.length + 7)), Value.ref (zB w + (pre.length + 8)), Value.int (Int32.ofInt 0), Value.null, Value.null]) rfl ?_
  refine zk_aloadN dX0_init_83 rfl rfl ?_
  refine zk_bipush dX0_init_84 rfl ?_
  refine kx_newa (g := 22) (n := 12) (q := 0) (a := zB w + (pre.length + 9)) (T' := [21, 21, 21, 21, 21, 21, 21, 21, 22]) rfl ac_int rfl rfl (fun _ _ h => h) rfl (by decide) rfl (by decide) (by decide) (hσ (pre.length + 9) (by omega) (by omega)) (by decide) (by decide) (Nat.le_of_ble_eq_true rfl) (Nat.le_of_ble_eq_true rfl) (Nat.le_of_ble_eq_true rfl) dX0_init_86 rfl ?_
  refine kx_put (ty := (.array .int)) fl_RX0_46 (Nat.le_of_ble_eq_true rfl) (fun _ _ _ h => by cases h; exact ⟨by decide +kernel, Or.inr ⟨rfl, rfl, rfl⟩⟩) rfl rfl dX0_init_88 (fs' := [Value.int (Int32.ofInt 0), Value.ref (zB w + (pre.length + 1)), Value.ref (zB w + (pre.length + 2)), Value.ref (zB w + (pre.length + 3)), Value.ref (zB w + (pre.length + 4)), Value.ref (zB w + (pre.length + 5)), Value.ref (zB w + (pre.length + 6)), Value.int (Int32.ofInt 0), Value.ref (zB w + (pre.length + 7)), Value.ref (zB w + (pre.length + 8)), Value.int (Int32.ofInt 0), Value.ref (zB w + (pre.length + 9)), Value.null]) rfl ?_
  refine zk_aloadN dX0_init_91 rfl rfl ?_
  refine zk_bipush dX0_init_92 rfl ?_
  refine kx_newa (g := 22) (n := 12) (q := 0) (a := zB w + (pre.length + 10)) (T' := [21, 21, 21, 21, 21, 21, 21, 21, 22, 22]) rfl ac_int rfl rfl (fun _ _ h => h) rfl (by decide) rfl (by decide) (by decide) (hσ (pre.length + 10) (by omega) (by omega)) (by decide) (by decide) (Nat.le_of_ble_eq_true rfl) (Nat.le_of_ble_eq_true rfl) (Nat.le_of_ble_eq_true rfl) dX0_init_94 rfl ?_
  refine kx_put (ty := (.array .int)) fl_RX0_49 (Nat.le_of_ble_eq_true rfl) (fun _ _ _ h => by cases h; exact ⟨by decide +kernel, Or.inr ⟨rfl, rfl, rfl⟩⟩) rfl rfl dX0_init_96 (fs' := [Value.int (Int32.ofInt 0), Value.ref (zB w + (pre.length + 1)), Value.ref (zB w + (pre.length + 2)), Value.ref (zB w + (pre.length + 3)), Value.ref (zB w + (pre.length + 4)), Value.ref (zB w + (pre.length + 5)), Value.ref (zB w + (pre.length + 6)), Value.int (Int32.ofInt 0), Value.ref (zB w + (pre.length + 7)), Value.ref (zB w + (pre.length + 8)), Value.int (Int32.ofInt 0), Value.ref (zB w + (pre.length + 9)), Value.ref (zB w + (pre.length + 10))]) rfl ?_
  exact zk_vret rfl dX0_init_99 (fun H hR => ⟨(), trivial, by
    have e := eX_end (w := w) (σ := σ) (pre := pre) (t := 0) (fs := [Value.int (Int32.ofInt 0), Value.ref (zB w + (pre.length + 1)), Value.ref (zB w + (pre.length + 2)), Value.ref (zB w + (pre.length + 3)), Value.ref (zB w + (pre.length + 4)), Value.ref (zB w + (pre.length + 5)), Value.ref (zB w + (pre.length + 6)), Value.int (Int32.ofInt 0), Value.ref (zB w + (pre.length + 7)), Value.ref (zB w + (pre.length + 8)), Value.int (Int32.ofInt 0), Value.ref (zB w + (pre.length + 9)), Value.ref (zB w + (pre.length + 10))]) (T := [21, 21, 21, 21, 21, 21, 21, 21, 22, 22]) (c := fun _ => 0) (by decide) (hσ _ (by omega) (by omega)) rfl
    rw [← e]; exact hR⟩) (Nat.le_of_ble_eq_true rfl) (Nat.le_of_ble_eq_true rfl)
set_option maxRecDepth 20000 in
set_option maxHeartbeats 4000000 in
theorem con_X2 {l : Launch} {w : zW} (hfl : l.stackTraces = false) {σ : zS} {pre : List va_E} (hσ : ∀ j, pre.length ≤ j → j < pre.length + 8 → ∀ i, σ.1 j i = 0) : zCon l w mX2_init 1 7 280 pre (.inr (2, [Value.int 0, Value.null, Value.null, Value.null, Value.null, Value.null, Value.null, Value.null])) (zRs w (fun _ : Unit => True) (fun _ => pre ++ eL w σ (2 :: [23, 23, 23, 23, 24, 24, 23]) pre.length)) := by
  refine zk_enter hfl (by decide) rfl rfl 0 rfl ?_
  show zK l w mX2_init _ true 0 (zV0 (zB w + pre.length) :: []) [] 0 0 (eX w σ pre 2 [Value.int 0, Value.null, Value.null, Value.null, Value.null, Value.null, Value.null, Value.null] [])
  refine zk_aloadN dX2_init_0 rfl rfl ?_
  refine zk_obj ob_RX2_3 (Nat.le_of_ble_eq_true rfl) ⟨(Nat.le_of_ble_eq_true rfl), (Nat.le_of_ble_eq_true rfl)⟩ dX2_init_1 ?_
  refine zk_aloadN dX2_init_4 rfl rfl ?_
  refine zk_iconst dX2_init_5 ?_
  refine kx_put (ty := .int) fl_RX2_9 (Nat.le_of_ble_eq_true rfl) (fun _ _ _ h => by cases h; exact ⟨by decide +kernel, Or.inl rfl⟩) rfl rfl dX2_init_6 (fs' := [Value.int (Int32.ofInt 0), Value.null, Value.null, Value.null, Value.null, Value.null, Value.null, Value.null]) rfl ?_
  refine zk_aloadN dX2_init_9 rfl rfl ?_
  refine zk_bipush dX2_init_10 rfl ?_
  refine kx_newa (g := 23) (n := 40) (q := 0) (a := zB w + (pre.length + 1)) (T' := [23]) rfl ac_int rfl rfl (fun _ _ h => h) rfl (by decide) rfl (by decide) (by decide) (hσ (pre.length + 1) (by omega) (by omega)) (by decide) (by decide) (Nat.le_of_ble_eq_true rfl) (Nat.le_of_ble_eq_true rfl) (Nat.le_of_ble_eq_true rfl) dX2_init_12 rfl ?_
  refine kx_put (ty := (.array .int)) fl_RX2_15 (Nat.le_of_ble_eq_true rfl) (fun _ _ _ h => by cases h; exact ⟨by decide +kernel, Or.inr ⟨rfl, rfl, rfl⟩⟩) rfl rfl dX2_init_14 (fs' := [Value.int (Int32.ofInt 0), Value.ref (zB w + (pre.length + 1)), Value.null, Value.null, Value.null, Value.null, Value.null, Value.null]) rfl ?_
  refine zk_aloadN dX2_init_17 rfl rfl ?_
  refine zk_bipush dX2_init_18 rfl ?_
  refine kx_newa (g := 23) (n := 40) (q := 0) (a := zB w + (pre.length + 2)) (T' := [23, 23]) rfl ac_int rfl rfl (fun _ _ h => h) rfl (by decide) rfl (by decide) (by decide) (hσ (pre.length + 2) (by omega) (by omega)) (by decide) (by decide) (Nat.le_of_ble_eq_true rfl) (Nat.le_of_ble_eq_true rfl) (Nat.le_of_ble_eq_true rfl) dX2_init_20 rfl ?_
  refine kx_put (ty := (.array .int)) fl_RX2_19 (Nat.le_of_ble_eq_true rfl) (fun _ _ _ h => by cases h; exact ⟨by decide +kernel, Or.inr ⟨rfl, rfl, rfl⟩⟩) rfl rfl dX2_init_22 (fs' := [Value.int (Int32.ofInt 0), Value.ref (zB w + (pre.length + 1)), Value.ref (zB w + (pre.length + 2)), Value.null, Value.null, Value.null, Value.null, Value.null]) rfl ?_
  refine zk_aloadN dX2_init_25 rfl rfl ?_
  refine zk_bipush dX2_init_26 rfl ?_
  refine kx_newa (g := 23) (n := 40) (q := 0) (a := zB w + (pre.length + 3)) (T' := [23, 23, 23]) rfl ac_int rfl rfl (fun _ _ h => h) rfl (by decide) rfl (by decide) (by decide) (hσ (pre.length + 3) (by omega) (by omega)) (by decide) (by decide) (Nat.le_of_ble_eq_true rfl) (Nat.le_of_ble_eq_true rfl) (Nat.le_of_ble_eq_true rfl) dX2_init_28 rfl ?_
  refine kx_put (ty := (.array .int)) fl_RX2_22 (Nat.le_of_ble_eq_true rfl) (fun _ _ _ h => by cases h; exact ⟨by decide +kernel, Or.inr ⟨rfl, rfl, rfl⟩⟩) rfl rfl dX2_init_30 (fs' := [Value.int (Int32.ofInt 0), Value.ref (zB w + (pre.length + 1)), Value.ref (zB w + (pre.length + 2)), Value.ref (zB w + (pre.length + 3)), Value.null, Value.null, Value.null, Value.null]) rfl ?_
  refine zk_aloadN dX2_init_33 rfl rfl ?_
  refine zk_bipush dX2_init_34 rfl ?_
  refine kx_newa (g := 23) (n := 40) (q := 0) (a := zB w + (pre.length + 4)) (T' := [23, 23, 23, 23]) rfl ac_int rfl rfl (fun _ _ h => h) rfl (by decide) rfl (by decide) (by decide) (hσ (pre.length + 4) (by omega) (by omega)) (by decide) (by decide) (Nat.le_of_ble_eq_true rfl) (Nat.le_of_ble_eq_true rfl) (Nat.le_of_ble_eq_true rfl) dX2_init_36 rfl ?_
  refine kx_put (ty := (.array .int)) fl_RX2_25 (Nat.le_of_ble_eq_true rfl) (fun _ _ _ h => by cases h; exact ⟨by decide +kernel, Or.inr ⟨rfl, rfl, rfl⟩⟩) rfl rfl dX2_init_38 (fs' := [Value.int (Int32.ofInt 0), Value.ref (zB w + (pre.length + 1)), Value.ref (zB w + (pre.length + 2)), Value.ref (zB w + (pre.length + 3)), Value.ref (zB w + (pre.length + 4)), Value.null, Value.null, Value.null]) rfl ?_
  refine zk_aloadN dX2_init_41 rfl rfl ?_
  refine zk_bipush dX2_init_42 rfl ?_
  refine kx_newa (g := 24) (n := 40) (q := 2) (a := zB w + (pre.length + 5)) (T' := [23, 23, 23, 23, 24]) rfl ac_boolean rfl rfl (fun _ _ h => h) rfl (by decide) rfl (by decide) (by decide) (hσ (pre.length + 5) (by omega) (by omega)) (by decide) (by decide) (Nat.le_of_ble_eq_true rfl) (Nat.le_of_ble_eq_true rfl) (Nat.le_of_ble_eq_true rfl) dX2_init_44 rfl ?_
  refine kx_put (ty := (.array .boolean)) fl_RX2_28 (Nat.le_of_ble_eq_true rfl) (fun _ _ _ h => by cases h; exact ⟨by decide +kernel, Or.inr ⟨rfl, rfl, rfl⟩⟩) rfl rfl dX2_init_46 (fs' := [Value.int (Int32.ofInt 0), Value.ref (zB w + (pre.length + 1)), Value.ref (zB w + (pre.length + 2)), Value.ref (zB w + (pre.length + 3)), Value.ref (zB w + (pre.length + 4)), Value.ref (zB w + (pre.length + 5)), Value.null, Value.null]) rfl ?_
  refine zk_aloadN dX2_init_49 rfl rfl ?_
  refine zk_bipush dX2_init_50 rfl ?_
  refine kx_newa (g := 24) (n := 40) (q := 2) (a := zB w + (pre.length + 6)) (T' := [23, 23, 23, 23, 24, 24]) rfl ac_boolean rfl rfl (fun _ _ h => h) rfl (by decide) rfl (by decide) (by decide) (hσ (pre.length + 6) (by omega) (by omega)) (by decide) (by decide) (Nat.le_of_ble_eq_true rfl) (Nat.le_of_ble_eq_true rfl) (Nat.le_of_ble_eq_true rfl) dX2_init_52 rfl ?_
  refine kx_put (ty := (.array .boolean)) fl_RX2_32 (Nat.le_of_ble_eq_true rfl) (fun _ _ _ h => by cases h; exact ⟨by decide +kernel, Or.inr ⟨rfl, rfl, rfl⟩⟩) rfl rfl dX2_init_54 (fs' := [Value.int (Int32.ofInt 0), Value.ref (zB w + (pre.length + 1)), Value.ref (zB w + (pre.length + 2)), Value.ref (zB w + (pre.length + 3)), Value.ref (zB w + (pre.length + 4)), Value.ref (zB w + (pre.length + 5)), Value.ref (zB w + (pre.length + 6)), Value.null]) rfl ?_
  refine zk_aloadN dX2_init_57 rfl rfl ?_
  refine zk_bipush dX2_init_58 rfl ?_
  refine kx_newa (g := 23) (n := 40) (q := 0) (a := zB w + (pre.length + 7)) (T' := [23, 23, 23, 23, 24, 24, 23]) rfl ac_int rfl rfl (fun _ _ h => h) rfl (by decide) rfl (by decide) (by decide) (hσ (pre.length + 7) (by omega) (by omega)) (by decide) (by decide) (Nat.le_of_ble_eq_true rfl) (Nat.le_of_ble_eq_true rfl) (Nat.le_of_ble_eq_true rfl) dX2_init_60 rfl ?_
  refine kx_put (ty := (.array .int)) fl_RX2_35 (Nat.le_of_ble_eq_true rfl) (fun _ _ _ h => by cases h; exact ⟨by decide +kernel, Or.inr ⟨rfl, rfl, rfl⟩⟩) rfl rfl dX2_init_62 (fs' := [Value.int (Int32.ofInt 0), Value.ref (zB w + (pre.length + 1)), Value.ref (zB w + (pre.length + 2)), Value.ref (zB w + (pre.length + 3)), Value.ref (zB w + (pre.length + 4)), Value.ref (zB w + (pre.length + 5)), Value.ref (zB w + (pre.length + 6)), Value.ref (zB w + (pre.length + 7))]) rfl ?_
  exact zk_vret rfl dX2_init_65 (fun H hR => ⟨(), trivial, by
    have e := eX_end (w := w) (σ := σ) (pre := pre) (t := 2) (fs := [Value.int (Int32.ofInt 0), Value.ref (zB w + (pre.length + 1)), Value.ref (zB w + (pre.length + 2)), Value.ref (zB w + (pre.length + 3)), Value.ref (zB w + (pre.length + 4)), Value.ref (zB w + (pre.length + 5)), Value.ref (zB w + (pre.length + 6)), Value.ref (zB w + (pre.length + 7))]) (T := [23, 23, 23, 23, 24, 24, 23]) (c := fun _ => 0) (by decide) (hσ _ (by omega) (by omega)) rfl
    rw [← e]; exact hR⟩) (Nat.le_of_ble_eq_true rfl) (Nat.le_of_ble_eq_true rfl)
set_option maxRecDepth 20000 in
set_option maxHeartbeats 4000000 in
theorem con_X3 {l : Launch} {w : zW} (hfl : l.stackTraces = false) {σ : zS} {pre : List va_E} (hσ : ∀ j, pre.length ≤ j → j < pre.length + 6 → ∀ i, σ.1 j i = 0) : zCon l w mX3_init 1 5 150 pre (.inr (3, [Value.int 0, Value.null, Value.null, Value.null, Value.null, Value.null])) (zRs w (fun _ : Unit => True) (fun _ => pre ++ eL w σ (3 :: [25, 25, 25, 25, 25]) pre.length)) := by
  refine zk_enter hfl (by decide) rfl rfl 0 rfl ?_
  show zK l w mX3_init _ true 0 (zV0 (zB w + pre.length) :: []) [] 0 0 (eX w σ pre 3 [Value.int 0, Value.null, Value.null, Value.null, Value.null, Value.null] [])
  refine zk_aloadN dX3_init_0 rfl rfl ?_
  refine zk_obj ob_RX3_3 (Nat.le_of_ble_eq_true rfl) ⟨(Nat.le_of_ble_eq_true rfl), (Nat.le_of_ble_eq_true rfl)⟩ dX3_init_1 ?_
  refine zk_aloadN dX3_init_4 rfl rfl ?_
  refine zk_iconst dX3_init_5 ?_
  refine kx_put (ty := .int) fl_RX3_9 (Nat.le_of_ble_eq_true rfl) (fun _ _ _ h => by cases h; exact ⟨by decide +kernel, Or.inl rfl⟩) rfl rfl dX3_init_6 (fs' := [Value.int (Int32.ofInt 0), Value.null, Value.null, Value.null, Value.null, Value.null]) rfl ?_
  refine zk_aloadN dX3_init_9 rfl rfl ?_
  refine zk_bipush dX3_init_10 rfl ?_
  refine kx_newa (g := 25) (n := 30) (q := 0) (a := zB w + (pre.length + 1)) (T' := [25]) rfl ac_int rfl rfl (fun _ _ h => h) rfl (by decide) rfl (by decide) (by decide) (hσ (pre.length + 1) (by omega) (by omega)) (by decide) (by decide) (Nat.le_of_ble_eq_true rfl) (Nat.le_of_ble_eq_true rfl) (Nat.le_of_ble_eq_true rfl) dX3_init_12 rfl ?_
  refine kx_put (ty := (.array .int)) fl_RX3_15 (Nat.le_of_ble_eq_true rfl) (fun _ _ _ h => by cases h; exact ⟨by decide +kernel, Or.inr ⟨rfl, rfl, rfl⟩⟩) rfl rfl dX3_init_14 (fs' := [Value.int (Int32.ofInt 0), Value.ref (zB w + (pre.length + 1)), Value.null, Value.null, Value.null, Value.null]) rfl ?_
  refine zk_aloadN dX3_init_17 rfl rfl ?_
  refine zk_bipush dX3_init_18 rfl ?_
  refine kx_newa (g := 25) (n := 30) (q := 0) (a := zB w + (pre.length + 2)) (T' := [25, 25]) rfl ac_int rfl rfl (fun _ _ h => h) rfl (by decide) rfl (by decide) (by decide) (hσ (pre.length + 2) (by omega) (by omega)) (by decide) (by decide) (Nat.le_of_ble_eq_true rfl) (Nat.le_of_ble_eq_true rfl) (Nat.le_of_ble_eq_true rfl) dX3_init_20 rfl ?_
  refine kx_put (ty := (.array .int)) fl_RX3_19 (Nat.le_of_ble_eq_true rfl) (fun _ _ _ h => by cases h; exact ⟨by decide +kernel, Or.inr ⟨rfl, rfl, rfl⟩⟩) rfl rfl dX3_init_22 (fs' := [Value.int (Int32.ofInt 0), Value.ref (zB w + (pre.length + 1)), Value.ref (zB w + (pre.length + 2)), Value.null, Value.null, Value.null]) rfl ?_
  refine zk_aloadN dX3_init_25 rfl rfl ?_
  refine zk_bipush dX3_init_26 rfl ?_
  refine kx_newa (g := 25) (n := 30) (q := 0) (a := zB w + (pre.length + 3)) (T' := [25, 25, 25]) rfl ac_int rfl rfl (fun _ _ h => h) rfl (by decide) rfl (by decide) (by decide) (hσ (pre.length + 3) (by omega) (by omega)) (by decide) (by decide) (Nat.le_of_ble_eq_true rfl) (Nat.le_of_ble_eq_true rfl) (Nat.le_of_ble_eq_true rfl) dX3_init_28 rfl ?_
  refine kx_put (ty := (.array .int)) fl_RX3_22 (Nat.le_of_ble_eq_true rfl) (fun _ _ _ h => by cases h; exact ⟨by decide +kernel, Or.inr ⟨rfl, rfl, rfl⟩⟩) rfl rfl dX3_init_30 (fs' := [Value.int (Int32.ofInt 0), Value.ref (zB w + (pre.length + 1)), Value.ref (zB w + (pre.length + 2)), Value.ref (zB w + (pre.length + 3)), Value.null, Value.null]) rfl ?_
  refine zk_aloadN dX3_init_33 rfl rfl ?_
  refine zk_bipush dX3_init_34 rfl ?_
  refine kx_newa (g := 25) (n := 30) (q := 0) (a := zB w + (pre.length + 4)) (T' := [25, 25, 25, 25]) rfl ac_int rfl rfl (fun _ _ h => h) rfl (by decide) rfl (by decide) (by decide) (hσ (pre.length + 4) (by omega) (by omega)) (by decide) (by decide) (Nat.le_of_ble_eq_true rfl) (Nat.le_of_ble_eq_true rfl) (Nat.le_of_ble_eq_true rfl) dX3_init_36 rfl ?_
  refine kx_put (ty := (.array .int)) fl_RX3_25 (Nat.le_of_ble_eq_true rfl) (fun _ _ _ h => by cases h; exact ⟨by decide +kernel, Or.inr ⟨rfl, rfl, rfl⟩⟩) rfl rfl dX3_init_38 (fs' := [Value.int (Int32.ofInt 0), Value.ref (zB w + (pre.length + 1)), Value.ref (zB w + (pre.length + 2)), Value.ref (zB w + (pre.length + 3)), Value.ref (zB w + (pre.length + 4)), Value.null]) rfl ?_
  refine zk_aloadN dX3_init_41 rfl rfl ?_
  refine zk_bipush dX3_init_42 rfl ?_
  refine kx_newa (g := 25) (n := 30) (q := 0) (a := zB w + (pre.length + 5)) (T' := [25, 25, 25, 25, 25]) rfl ac_int rfl rfl (fun _ _ h => h) rfl (by decide) rfl (by decide) (by decide) (hσ (pre.length + 5) (by omega) (by omega)) (by decide) (by decide) (Nat.le_of_ble_eq_true rfl) (Nat.le_of_ble_eq_true rfl) (Nat.le_of_ble_eq_true rfl) dX3_init_44 rfl ?_
  refine kx_put (ty := (.array .int)) fl_RX3_28 (Nat.le_of_ble_eq_true rfl) (fun _ _ _ h => by cases h; exact ⟨by decide +kernel, Or.inr ⟨rfl, rfl, rfl⟩⟩) rfl rfl dX3_init_46 (fs' := [Value.int (Int32.ofInt 0), Value.ref (zB w + (pre.length + 1)), Value.ref (zB w + (pre.length + 2)), Value.ref (zB w + (pre.length + 3)), Value.ref (zB w + (pre.length + 4)), Value.ref (zB w + (pre.length + 5))]) rfl ?_
  exact zk_vret rfl dX3_init_49 (fun H hR => ⟨(), trivial, by
    have e := eX_end (w := w) (σ := σ) (pre := pre) (t := 3) (fs := [Value.int (Int32.ofInt 0), Value.ref (zB w + (pre.length + 1)), Value.ref (zB w + (pre.length + 2)), Value.ref (zB w + (pre.length + 3)), Value.ref (zB w + (pre.length + 4)), Value.ref (zB w + (pre.length + 5))]) (T := [25, 25, 25, 25, 25]) (c := fun _ => 0) (by decide) (hσ _ (by omega) (by omega)) rfl
    rw [← e]; exact hR⟩) (Nat.le_of_ble_eq_true rfl) (Nat.le_of_ble_eq_true rfl)
set_option maxRecDepth 20000 in
set_option maxHeartbeats 4000000 in
theorem con_X6 {l : Launch} {w : zW} (hfl : l.stackTraces = false) {σ : zS} {pre : List va_E} (h0 : ∀ i, σ.1 pre.length i = if i = 6 then -1 else 0) (hσ : ∀ j, pre.length + 1 ≤ j → j < pre.length + 2 → ∀ i, σ.1 j i = 0) : zCon l w mX6_init 1 1 1400 pre (.inr (6, [Value.null, Value.int 0, Value.int 0, Value.int 0, Value.int 0, Value.int 0, Value.int 0])) (zRs w (fun _ : Unit => True) (fun _ => pre ++ eL w σ (6 :: [20]) pre.length)) := by
  refine zk_enter hfl (by decide) rfl rfl 0 rfl ?_
  show zK l w mX6_init _ true 0 (zV0 (zB w + pre.length) :: []) [] 0 0 (eX w σ pre 6 [Value.null, Value.int 0, Value.int 0, Value.int 0, Value.int 0, Value.int 0, Value.int 0] [])
  refine zk_aloadN dX6_init_0 rfl rfl ?_
  refine zk_obj ob_RX6_3 (Nat.le_of_ble_eq_true rfl) ⟨(Nat.le_of_ble_eq_true rfl), (Nat.le_of_ble_eq_true rfl)⟩ dX6_init_1 ?_
  refine zk_aloadN dX6_init_4 rfl rfl ?_
  refine zk_sipush dX6_init_5 rfl ?_
  refine kx_newa (g := 20) (n := 1400) (q := 1) (a := zB w + (pre.length + 1)) (T' := [20]) rfl ac_byte rfl rfl (fun _ _ h => h) rfl (by decide) rfl (by decide) (by decide) (hσ (pre.length + 1) (by omega) (by omega)) (by decide) (by decide) (Nat.le_of_ble_eq_true rfl) (Nat.le_of_ble_eq_true rfl) (Nat.le_of_ble_eq_true rfl) dX6_init_8 rfl ?_
  refine kx_put (ty := (.array .byte)) fl_RX6_9 (Nat.le_of_ble_eq_true rfl) (fun _ _ _ h => by cases h; exact ⟨by decide +kernel, Or.inr ⟨rfl, rfl, rfl⟩⟩) rfl rfl dX6_init_10 (fs' := [Value.ref (zB w + (pre.length + 1)), Value.int 0, Value.int 0, Value.int 0, Value.int 0, Value.int 0, Value.int 0]) rfl ?_
  refine zk_aloadN dX6_init_13 rfl rfl ?_
  refine zk_iconst dX6_init_14 ?_
  refine kx_put (ty := .int) fl_RX6_15 (Nat.le_of_ble_eq_true rfl) (fun _ _ _ h => by cases h; exact ⟨by decide +kernel, Or.inl rfl⟩) rfl rfl dX6_init_15 (fs' := [Value.ref (zB w + (pre.length + 1)), Value.int (Int32.ofInt 0), Value.int 0, Value.int 0, Value.int 0, Value.int 0, Value.int 0]) rfl ?_
  refine zk_aloadN dX6_init_18 rfl rfl ?_
  refine zk_iconst dX6_init_19 ?_
  refine kx_put (ty := .int) fl_RX6_19 (Nat.le_of_ble_eq_true rfl) (fun _ _ _ h => by cases h; exact ⟨by decide +kernel, Or.inl rfl⟩) rfl rfl dX6_init_20 (fs' := [Value.ref (zB w + (pre.length + 1)), Value.int (Int32.ofInt 0), Value.int (Int32.ofInt 0), Value.int 0, Value.int 0, Value.int 0, Value.int 0]) rfl ?_
  refine zk_aloadN dX6_init_23 rfl rfl ?_
  refine zk_iconst dX6_init_24 ?_
  refine kx_put (ty := .int) fl_RX6_22 (Nat.le_of_ble_eq_true rfl) (fun _ _ _ h => by cases h; exact ⟨by decide +kernel, Or.inl rfl⟩) rfl rfl dX6_init_25 (fs' := [Value.ref (zB w + (pre.length + 1)), Value.int (Int32.ofInt 0), Value.int (Int32.ofInt 0), Value.int (Int32.ofInt 0), Value.int 0, Value.int 0, Value.int 0]) rfl ?_
  refine zk_aloadN dX6_init_28 rfl rfl ?_
  refine zk_iconst dX6_init_29 ?_
  refine kx_put (ty := .int) fl_RX6_25 (Nat.le_of_ble_eq_true rfl) (fun _ _ _ h => by cases h; exact ⟨by decide +kernel, Or.inl rfl⟩) rfl rfl dX6_init_30 (fs' := [Value.ref (zB w + (pre.length + 1)), Value.int (Int32.ofInt 0), Value.int (Int32.ofInt 0), Value.int (Int32.ofInt 0), Value.int (Int32.ofInt 0), Value.int 0, Value.int 0]) rfl ?_
  refine zk_aloadN dX6_init_33 rfl rfl ?_
  refine zk_iconst dX6_init_34 ?_
  refine kx_put (ty := .int) fl_RX6_28 (Nat.le_of_ble_eq_true rfl) (fun _ _ _ h => by cases h; exact ⟨by decide +kernel, Or.inl rfl⟩) rfl rfl dX6_init_35 (fs' := [Value.ref (zB w + (pre.length + 1)), Value.int (Int32.ofInt 0), Value.int (Int32.ofInt 0), Value.int (Int32.ofInt 0), Value.int (Int32.ofInt 0), Value.int (Int32.ofInt 0), Value.int 0]) rfl ?_
  refine zk_aloadN dX6_init_38 rfl rfl ?_
  refine zk_iconst dX6_init_39 ?_
  refine kx_put (ty := .int) fl_RX6_31 (Nat.le_of_ble_eq_true rfl) (fun _ _ _ h => by cases h; exact ⟨by decide +kernel, Or.inl rfl⟩) rfl rfl dX6_init_40 (fs' := [Value.ref (zB w + (pre.length + 1)), Value.int (Int32.ofInt 0), Value.int (Int32.ofInt 0), Value.int (Int32.ofInt 0), Value.int (Int32.ofInt 0), Value.int (Int32.ofInt 0), Value.int (Int32.ofInt (-1))]) rfl ?_
  exact zk_vret rfl dX6_init_43 (fun H hR => ⟨(), trivial, by
    have e := eX_end (w := w) (σ := σ) (pre := pre) (t := 6) (fs := [Value.ref (zB w + (pre.length + 1)), Value.int (Int32.ofInt 0), Value.int (Int32.ofInt 0), Value.int (Int32.ofInt 0), Value.int (Int32.ofInt 0), Value.int (Int32.ofInt 0), Value.int (Int32.ofInt (-1))]) (T := [20]) (c := fun i => if i = 6 then -1 else 0) (by decide) h0 rfl
    rw [← e]; exact hR⟩) (Nat.le_of_ble_eq_true rfl) (Nat.le_of_ble_eq_true rfl)
set_option maxRecDepth 20000 in
set_option maxHeartbeats 4000000 in
theorem con_X7 {l : Launch} {w : zW} (hfl : l.stackTraces = false) {σ : zS} {pre : List va_E} (hσ : ∀ j, pre.length ≤ j → j < pre.length + 7 → ∀ i, σ.1 j i = 0) : zCon l w mX7_init 1 6 623 pre (.inr (7, [Value.null, Value.null, Value.null, Value.null, Value.null, Value.int 0, Value.null])) (zRs w (fun _ : Unit => True) (fun _ => pre ++ eL w σ (7 :: [24, 27, 21, 21, 21, 21]) pre.length)) := by
  refine zk_enter hfl (by decide) rfl rfl 0 rfl ?_
  show zK l w mX7_init _ true 0 (zV0 (zB w + pre.length) :: []) [] 0 0 (eX w σ pre 7 [Value.null, Value.null, Value.null, Value.null, Value.null, Value.int 0, Value.null] [])
  refine zk_aloadN dX7_init_0 rfl rfl ?_
  refine zk_obj ob_RX7_3 (Nat.le_of_ble_eq_true rfl) ⟨(Nat.le_of_ble_eq_true rfl), (Nat.le_of_ble_eq_true rfl)⟩ dX7_init_1 ?_
  refine zk_aloadN dX7_init_4 rfl rfl ?_
  refine zk_bipush dX7_init_5 rfl ?_
  refine kx_newa (g := 24) (n := 40) (q := 2) (a := zB w + (pre.length + 1)) (T' := [24]) rfl ac_boolean rfl rfl (fun _ _ h => h) rfl (by decide) rfl (by decide) (by decide) (hσ (pre.length + 1) (by omega) (by omega)) (by decide) (by decide) (Nat.le_of_ble_eq_true rfl) (Nat.le_of_ble_eq_true rfl) (Nat.le_of_ble_eq_true rfl) dX7_init_7 rfl ?_
  refine kx_put (ty := (.array .boolean)) fl_RX7_9 (Nat.le_of_ble_eq_true rfl) (fun _ _ _ h => by cases h; exact ⟨by decide +kernel, Or.inr ⟨rfl, rfl, rfl⟩⟩) rfl rfl dX7_init_9 (fs' := [Value.ref (zB w + (pre.length + 1)), Value.null, Value.null, Value.null, Value.null, Value.int 0, Value.null]) rfl ?_
  refine zk_aloadN dX7_init_12 rfl rfl ?_
  refine zk_sipush dX7_init_13 rfl ?_
  refine kx_newa (g := 27) (n := 551) (q := 0) (a := zB w + (pre.length + 2)) (T' := [24, 27]) rfl ac_int rfl rfl (fun _ _ h => h) rfl (by decide) rfl (by decide) (by decide) (hσ (pre.length + 2) (by omega) (by omega)) (by decide) (by decide) (Nat.le_of_ble_eq_true rfl) (Nat.le_of_ble_eq_true rfl) (Nat.le_of_ble_eq_true rfl) dX7_init_16 rfl ?_
  refine kx_put (ty := (.array .int)) fl_RX7_15 (Nat.le_of_ble_eq_true rfl) (fun _ _ _ h => by cases h; exact ⟨by decide +kernel, Or.inr ⟨rfl, rfl, rfl⟩⟩) rfl rfl dX7_init_18 (fs' := [Value.ref (zB w + (pre.length + 1)), Value.ref (zB w + (pre.length + 2)), Value.null, Value.null, Value.null, Value.int 0, Value.null]) rfl ?_
  refine zk_aloadN dX7_init_21 rfl rfl ?_
  refine zk_bipush dX7_init_22 rfl ?_
  refine kx_newa (g := 21) (n := 8) (q := 0) (a := zB w + (pre.length + 3)) (T' := [24, 27, 21]) rfl ac_int rfl rfl (fun _ _ h => h) rfl (by decide) rfl (by decide) (by decide) (hσ (pre.length + 3) (by omega) (by omega)) (by decide) (by decide) (Nat.le_of_ble_eq_true rfl) (Nat.le_of_ble_eq_true rfl) (Nat.le_of_ble_eq_true rfl) dX7_init_24 rfl ?_
  refine kx_put (ty := (.array .int)) fl_RX7_19 (Nat.le_of_ble_eq_true rfl) (fun _ _ _ h => by cases h; exact ⟨by decide +kernel, Or.inr ⟨rfl, rfl, rfl⟩⟩) rfl rfl dX7_init_26 (fs' := [Value.ref (zB w + (pre.length + 1)), Value.ref (zB w + (pre.length + 2)), Value.ref (zB w + (pre.length + 3)), Value.null, Value.null, Value.int 0, Value.null]) rfl ?_
  refine zk_aloadN dX7_init_29 rfl rfl ?_
  refine zk_bipush dX7_init_30 rfl ?_
  refine kx_newa (g := 21) (n := 8) (q := 0) (a := zB w + (pre.length + 4)) (T' := [24, 27, 21, 21]) rfl ac_int rfl rfl (fun _ _ h => h) rfl (by decide) rfl (by decide) (by decide) (hσ (pre.length + 4) (by omega) (by omega)) (by decide) (by decide) (Nat.le_of_ble_eq_true rfl) (Nat.le_of_ble_eq_true rfl) (Nat.le_of_ble_eq_true rfl) dX7_init_32 rfl ?_
  refine kx_put (ty := (.array .int)) fl_RX7_22 (Nat.le_of_ble_eq_true rfl) (fun _ _ _ h => by cases h; exact ⟨by decide +kernel, Or.inr ⟨rfl, rfl, rfl⟩⟩) rfl rfl dX7_init_34 (fs' := [Value.ref (zB w + (pre.length + 1)), Value.ref (zB w + (pre.length + 2)), Value.ref (zB w + (pre.length + 3)), Value.ref (zB w + (pre.length + 4)), Value.null, Value.int 0, Value.null]) rfl ?_
  refine zk_aloadN dX7_init_37 rfl rfl ?_
  refine zk_bipush dX7_init_38 rfl ?_
  refine kx_newa (g := 21) (n := 8) (q := 0) (a := zB w + (pre.length + 5)) (T' := [24, 27, 21, 21, 21]) rfl ac_int rfl rfl (fun _ _ h => h) rfl (by decide) rfl (by decide) (by decide) (hσ (pre.length + 5) (by omega) (by omega)) (by decide) (by decide) (Nat.le_of_ble_eq_true rfl) (Nat.le_of_ble_eq_true rfl) (Nat.le_of_ble_eq_true rfl) dX7_init_40 rfl ?_
  refine kx_put (ty := (.array .int)) fl_RX7_25 (Nat.le_of_ble_eq_true rfl) (fun _ _ _ h => by cases h; exact ⟨by decide +kernel, Or.inr ⟨rfl, rfl, rfl⟩⟩) rfl rfl dX7_init_42 (fs' := [Value.ref (zB w + (pre.length + 1)), Value.ref (zB w + (pre.length + 2)), Value.ref (zB w + (pre.length + 3)), Value.ref (zB w + (pre.length + 4)), Value.ref (zB w + (pre.length + 5)), Value.int 0, Value.null]) rfl ?_
  refine zk_aloadN dX7_init_45 rfl rfl ?_
  refine zk_iconst dX7_init_46 ?_
  refine kx_put (ty := .int) fl_RX7_28 (Nat.le_of_ble_eq_true rfl) (fun _ _ _ h => by cases h; exact ⟨by decide +kernel, Or.inl rfl⟩) rfl rfl dX7_init_47 (fs' := [Value.ref (zB w + (pre.length + 1)), Value.ref (zB w + (pre.length + 2)), Value.ref (zB w + (pre.length + 3)), Value.ref (zB w + (pre.length + 4)), Value.ref (zB w + (pre.length + 5)), Value.int (Int32.ofInt 0), Value.null]) rfl ?_
  refine zk_aloadN dX7_init_50 rfl rfl ?_
  refine zk_bipush dX7_init_51 rfl ?_
  refine kx_newa (g := 21) (n := 8) (q := 0) (a := zB w + (pre.length + 6)) (T' := [24, 27, 21, 21, 21, 21]) rfl ac_int rfl rfl (fun _ _ h => h) rfl (by decide) rfl (by decide) (by decide) (hσ (pre.length + 6) (by omega) (by omega)) (by decide) (by decide) (Nat.le_of_ble_eq_true rfl) (Nat.le_of_ble_eq_true rfl) (Nat.le_of_ble_eq_true rfl) dX7_init_53 rfl ?_
  refine kx_put (ty := (.array .int)) fl_RX7_32 (Nat.le_of_ble_eq_true rfl) (fun _ _ _ h => by cases h; exact ⟨by decide +kernel, Or.inr ⟨rfl, rfl, rfl⟩⟩) rfl rfl dX7_init_55 (fs' := [Value.ref (zB w + (pre.length + 1)), Value.ref (zB w + (pre.length + 2)), Value.ref (zB w + (pre.length + 3)), Value.ref (zB w + (pre.length + 4)), Value.ref (zB w + (pre.length + 5)), Value.int (Int32.ofInt 0), Value.ref (zB w + (pre.length + 6))]) rfl ?_
  exact zk_vret rfl dX7_init_58 (fun H hR => ⟨(), trivial, by
    have e := eX_end (w := w) (σ := σ) (pre := pre) (t := 7) (fs := [Value.ref (zB w + (pre.length + 1)), Value.ref (zB w + (pre.length + 2)), Value.ref (zB w + (pre.length + 3)), Value.ref (zB w + (pre.length + 4)), Value.ref (zB w + (pre.length + 5)), Value.int (Int32.ofInt 0), Value.ref (zB w + (pre.length + 6))]) (T := [24, 27, 21, 21, 21, 21]) (c := fun _ => 0) (by decide) (hσ _ (by omega) (by omega)) rfl
    rw [← e]; exact hR⟩) (Nat.le_of_ble_eq_true rfl) (Nat.le_of_ble_eq_true rfl)
set_option maxRecDepth 20000 in
set_option maxHeartbeats 4000000 in
theorem con_X8 {l : Launch} {w : zW} (hfl : l.stackTraces = false) {σ : zS} {pre : List va_E} (hσ : ∀ j, pre.length ≤ j → j < pre.length + 2 → ∀ i, σ.1 j i = 0) : zCon l w mX8_init 1 1 131 pre (.inr (8, [Value.null, Value.int 0])) (zRs w (fun _ : Unit => True) (fun _ => pre ++ eL w σ (8 :: [28]) pre.length)) := by
  refine zk_enter hfl (by decide) rfl rfl 0 rfl ?_
  show zK l w mX8_init _ true 0 (zV0 (zB w + pre.length) :: []) [] 0 0 (eX w σ pre 8 [Value.null, Value.int 0] [])
  refine zk_aloadN dX8_init_0 rfl rfl ?_
  refine zk_obj ob_RX8_3 (Nat.le_of_ble_eq_true rfl) ⟨(Nat.le_of_ble_eq_true rfl), (Nat.le_of_ble_eq_true rfl)⟩ dX8_init_1 ?_
  refine zk_aloadN dX8_init_4 rfl rfl ?_
  refine zk_sipush dX8_init_5 rfl ?_
  refine kx_newa (g := 28) (n := 131) (q := 1) (a := zB w + (pre.length + 1)) (T' := [28]) rfl ac_byte rfl rfl (fun _ _ h => h) rfl (by decide) rfl (by decide) (by decide) (hσ (pre.length + 1) (by omega) (by omega)) (by decide) (by decide) (Nat.le_of_ble_eq_true rfl) (Nat.le_of_ble_eq_true rfl) (Nat.le_of_ble_eq_true rfl) dX8_init_8 rfl ?_
  refine kx_put (ty := (.array .byte)) fl_RX8_9 (Nat.le_of_ble_eq_true rfl) (fun _ _ _ h => by cases h; exact ⟨by decide +kernel, Or.inr ⟨rfl, rfl, rfl⟩⟩) rfl rfl dX8_init_10 (fs' := [Value.ref (zB w + (pre.length + 1)), Value.int 0]) rfl ?_
  refine zk_aloadN dX8_init_13 rfl rfl ?_
  refine zk_iconst dX8_init_14 ?_
  refine kx_put (ty := .int) fl_RX8_15 (Nat.le_of_ble_eq_true rfl) (fun _ _ _ h => by cases h; exact ⟨by decide +kernel, Or.inl rfl⟩) rfl rfl dX8_init_15 (fs' := [Value.ref (zB w + (pre.length + 1)), Value.int (Int32.ofInt 0)]) rfl ?_
  exact zk_vret rfl dX8_init_18 (fun H hR => ⟨(), trivial, by
    have e := eX_end (w := w) (σ := σ) (pre := pre) (t := 8) (fs := [Value.ref (zB w + (pre.length + 1)), Value.int (Int32.ofInt 0)]) (T := [28]) (c := fun _ => 0) (by decide) (hσ _ (by omega) (by omega)) rfl
    rw [← e]; exact hR⟩) (Nat.le_of_ble_eq_true rfl) (Nat.le_of_ble_eq_true rfl)
set_option maxRecDepth 20000 in
set_option maxHeartbeats 4000000 in
theorem con_X1 {l : Launch} {w : zW} (hfl : l.stackTraces = false) {σ : zS} {pre : List va_E} (hσ : ∀ j, pre.length ≤ j → j < pre.length + 20 → ∀ i, σ.1 j i = 0) : zCon l w mX1_init 2 19 389 pre (.inr (1, [Value.null, Value.null])) (zRs w (fun _ : Unit => True) (fun _ => pre ++ eL w σ (1 :: [0, 21, 21, 21, 21, 21, 21, 21, 21, 22, 22, 2, 23, 23, 23, 23, 24, 24, 23]) pre.length)) := by
  refine zk_enter hfl (by decide) rfl rfl 0 rfl ?_
  show zK l w mX1_init _ true 0 (zV0 (zB w + pre.length) :: []) [] 0 0 (eX w σ pre 1 [Value.null, Value.null] [])
  refine zk_aloadN dX1_init_0 rfl rfl ?_
  refine zk_obj ob_RX1_3 (Nat.le_of_ble_eq_true rfl) ⟨(Nat.le_of_ble_eq_true rfl), (Nat.le_of_ble_eq_true rfl)⟩ dX1_init_1 ?_
  refine zk_aloadN dX1_init_4 rfl rfl ?_
  refine kx_ctor (t' := 0) (N := 13) (Cn := RX0) (Tt := TX0) (a := zB w + (pre.length + 1)) (T2 := [0, 21, 21, 21, 21, 21, 21, 21, 21, 22, 22]) rfl rfl kl_RX1_9 it_X0 iz_X0 df_X0 dX1_init_5 dX1_init_8 dX1_init_9 (fun pre' hp => by
      have hp2 : pre'.length = pre.length + 1 := hp
      exact con_X0 hfl (fun j h1 h2 => hσ j (by omega) (by omega))) rfl cn_RX1_11 okX0_init rfl (Nat.le_of_ble_eq_true rfl) ⟨(Nat.le_of_ble_eq_true rfl), (Nat.le_of_ble_eq_true rfl), (Nat.le_of_ble_eq_true rfl), (Nat.le_of_ble_eq_true rfl)⟩ rfl ?_
  refine kx_put (ty := (.object "ColophonDetective$Archive")) fl_RX1_12 (Nat.le_of_ble_eq_true rfl) (fun _ _ _ h => by cases h; exact ⟨by decide +kernel, Or.inr ⟨rfl, rfl, rfl⟩⟩) rfl rfl dX1_init_12 (fs' := [Value.ref (zB w + (pre.length + 1)), Value.null]) rfl ?_
  refine zk_aloadN dX1_init_15 rfl rfl ?_
  refine kx_ctor (t' := 2) (N := 8) (Cn := RX2) (Tt := TX2) (a := zB w + (pre.length + 12)) (T2 := [0, 21, 21, 21, 21, 21, 21, 21, 21, 22, 22, 2, 23, 23, 23, 23, 24, 24, 23]) rfl rfl kl_RX1_18 it_X2 iz_X2 df_X2 dX1_init_16 dX1_init_19 dX1_init_20 (fun pre' hp => by
      have hp2 : pre'.length = pre.length + 12 := hp
      exact con_X2 hfl (fun j h1 h2 => hσ j (by omega) (by omega))) rfl cn_RX1_20 okX2_init rfl (Nat.le_of_ble_eq_true rfl) ⟨(Nat.le_of_ble_eq_true rfl), (Nat.le_of_ble_eq_true rfl), (Nat.le_of_ble_eq_true rfl), (Nat.le_of_ble_eq_true rfl)⟩ rfl ?_
  refine kx_put (ty := (.object "ColophonDetective$Clues")) fl_RX1_21 (Nat.le_of_ble_eq_true rfl) (fun _ _ _ h => by cases h; exact ⟨by decide +kernel, Or.inr ⟨rfl, rfl, rfl⟩⟩) rfl rfl dX1_init_23 (fs' := [Value.ref (zB w + (pre.length + 1)), Value.ref (zB w + (pre.length + 12))]) rfl ?_
  exact zk_vret rfl dX1_init_26 (fun H hR => ⟨(), trivial, by
    have e := eX_end (w := w) (σ := σ) (pre := pre) (t := 1) (fs := [Value.ref (zB w + (pre.length + 1)), Value.ref (zB w + (pre.length + 12))]) (T := [0, 21, 21, 21, 21, 21, 21, 21, 21, 22, 22, 2, 23, 23, 23, 23, 24, 24, 23]) (c := fun _ => 0) (by decide) (hσ _ (by omega) (by omega)) rfl
    rw [← e]; exact hR⟩) (Nat.le_of_ble_eq_true rfl) (Nat.le_of_ble_eq_true rfl)
set_option maxRecDepth 20000 in
set_option maxHeartbeats 4000000 in
theorem con_X4 {l : Launch} {w : zW} (hfl : l.stackTraces = false) {σ : zS} {pre : List va_E} (hσ : ∀ j, pre.length ≤ j → j < pre.length + 21 → ∀ i, σ.1 j i = 0) : zCon l w mX4_init 3 20 391 pre (.inr (4, [Value.null])) (zRs w (fun _ : Unit => True) (fun _ => pre ++ eL w σ (4 :: [1, 0, 21, 21, 21, 21, 21, 21, 21, 21, 22, 22, 2, 23, 23, 23, 23, 24, 24, 23]) pre.length)) := by
  refine zk_enter hfl (by decide) rfl rfl 0 rfl ?_
  show zK l w mX4_init _ true 0 (zV0 (zB w + pre.length) :: []) [] 0 0 (eX w σ pre 4 [Value.null] [])
  refine zk_aloadN dX4_init_0 rfl rfl ?_
  refine zk_obj ob_RX4_3 (Nat.le_of_ble_eq_true rfl) ⟨(Nat.le_of_ble_eq_true rfl), (Nat.le_of_ble_eq_true rfl)⟩ dX4_init_1 ?_
  refine zk_aloadN dX4_init_4 rfl rfl ?_
  refine kx_ctor (t' := 1) (N := 2) (Cn := RX1) (Tt := TX1) (a := zB w + (pre.length + 1)) (T2 := [1, 0, 21, 21, 21, 21, 21, 21, 21, 21, 22, 22, 2, 23, 23, 23, 23, 24, 24, 23]) rfl rfl kl_RX4_9 it_X1 iz_X1 df_X1 dX4_init_5 dX4_init_8 dX4_init_9 (fun pre' hp => by
      have hp2 : pre'.length = pre.length + 1 := hp
      exact con_X1 hfl (fun j h1 h2 => hσ j (by omega) (by omega))) rfl cn_RX4_11 okX1_init rfl (Nat.le_of_ble_eq_true rfl) ⟨(Nat.le_of_ble_eq_true rfl), (Nat.le_of_ble_eq_true rfl), (Nat.le_of_ble_eq_true rfl), (Nat.le_of_ble_eq_true rfl)⟩ rfl ?_
  refine kx_put (ty := (.object "ColophonDetective$Casebook")) fl_RX4_12 (Nat.le_of_ble_eq_true rfl) (fun _ _ _ h => by cases h; exact ⟨by decide +kernel, Or.inr ⟨rfl, rfl, rfl⟩⟩) rfl rfl dX4_init_12 (fs' := [Value.ref (zB w + (pre.length + 1))]) rfl ?_
  exact zk_vret rfl dX4_init_15 (fun H hR => ⟨(), trivial, by
    have e := eX_end (w := w) (σ := σ) (pre := pre) (t := 4) (fs := [Value.ref (zB w + (pre.length + 1))]) (T := [1, 0, 21, 21, 21, 21, 21, 21, 21, 21, 22, 22, 2, 23, 23, 23, 23, 24, 24, 23]) (c := fun _ => 0) (by decide) (hσ _ (by omega) (by omega)) rfl
    rw [← e]; exact hR⟩) (Nat.le_of_ble_eq_true rfl) (Nat.le_of_ble_eq_true rfl)

