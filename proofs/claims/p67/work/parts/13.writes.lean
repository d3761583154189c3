abbrev mX0_copyFrom : zM := (yX0_copyFrom, cX0_copyFrom, 2, none, [])
theorem okX0_copyFrom : zMok mX0_copyFrom 1 := ⟨by decide, by decide, by decide +kernel⟩
theorem dX0_copyFrom_0 : decode cX0_copyFrom 0 = .ok (.aload_n 0, 1) := by decide +kernel
theorem dX0_copyFrom_1 : decode cX0_copyFrom 1 = .ok (.aload_n 1, 1) := by decide +kernel
theorem dX0_copyFrom_2 : decode cX0_copyFrom 2 = .ok (.getfield 9, 3) := by decide +kernel
theorem dX0_copyFrom_5 : decode cX0_copyFrom 5 = .ok (.putfield 9, 3) := by decide +kernel
theorem fp_0_0 : zFi 0 0 "I" := ⟨RX0, TX0, 13, rfl, rfl, rfl⟩
theorem dX0_copyFrom_8 : decode cX0_copyFrom 8 = .ok (.aload_n 1, 1) := by decide +kernel
theorem dX0_copyFrom_9 : decode cX0_copyFrom 9 = .ok (.getfield 15, 3) := by decide +kernel
theorem dX0_copyFrom_12 : decode cX0_copyFrom 12 = .ok (.iconst 0, 1) := by decide +kernel
theorem dX0_copyFrom_13 : decode cX0_copyFrom 13 = .ok (.aload_n 0, 1) := by decide +kernel
theorem dX0_copyFrom_14 : decode cX0_copyFrom 14 = .ok (.getfield 15, 3) := by decide +kernel
theorem dX0_copyFrom_17 : decode cX0_copyFrom 17 = .ok (.iconst 0, 1) := by decide +kernel
theorem dX0_copyFrom_18 : decode cX0_copyFrom 18 = .ok (.bipush 8, 2) := by decide +kernel
theorem dX0_copyFrom_20 : decode cX0_copyFrom 20 = .ok (.invokestatic 52, 3) := by decide +kernel
theorem aw_RX0_52 : ∀ x ∈ ([.methodLink RX0 52 arraycopyName, .native arraycopyName, .static arraycopyName, .initialized "java/lang/System"] : List Cond), x ∈ zgood := zall [553, 555, 554, 26] (by decide +kernel) (by decide +kernel)
theorem dX0_copyFrom_23 : decode cX0_copyFrom 23 = .ok (.aload_n 1, 1) := by decide +kernel
theorem dX0_copyFrom_24 : decode cX0_copyFrom 24 = .ok (.getfield 19, 3) := by decide +kernel
theorem fl_RX0_19 : zFl RX0 19 0 2 := ⟨RX0, TX0, 13, rfl, by decide, zmem1 109 (by decide +kernel) rfl, rfl⟩
theorem dX0_copyFrom_27 : decode cX0_copyFrom 27 = .ok (.iconst 0, 1) := by decide +kernel
theorem dX0_copyFrom_28 : decode cX0_copyFrom 28 = .ok (.aload_n 0, 1) := by decide +kernel
theorem dX0_copyFrom_29 : decode cX0_copyFrom 29 = .ok (.getfield 19, 3) := by decide +kernel
theorem dX0_copyFrom_32 : decode cX0_copyFrom 32 = .ok (.iconst 0, 1) := by decide +kernel
theorem dX0_copyFrom_33 : decode cX0_copyFrom 33 = .ok (.bipush 8, 2) := by decide +kernel
theorem dX0_copyFrom_35 : decode cX0_copyFrom 35 = .ok (.invokestatic 52, 3) := by decide +kernel
theorem dX0_copyFrom_38 : decode cX0_copyFrom 38 = .ok (.aload_n 1, 1) := by decide +kernel
theorem dX0_copyFrom_39 : decode cX0_copyFrom 39 = .ok (.getfield 22, 3) := by decide +kernel
theorem dX0_copyFrom_42 : decode cX0_copyFrom 42 = .ok (.iconst 0, 1) := by decide +kernel
theorem dX0_copyFrom_43 : decode cX0_copyFrom 43 = .ok (.aload_n 0, 1) := by decide +kernel
theorem dX0_copyFrom_44 : decode cX0_copyFrom 44 = .ok (.getfield 22, 3) := by decide +kernel
theorem dX0_copyFrom_47 : decode cX0_copyFrom 47 = .ok (.iconst 0, 1) := by decide +kernel
theorem dX0_copyFrom_48 : decode cX0_copyFrom 48 = .ok (.bipush 8, 2) := by decide +kernel
theorem dX0_copyFrom_50 : decode cX0_copyFrom 50 = .ok (.invokestatic 52, 3) := by decide +kernel
theorem dX0_copyFrom_53 : decode cX0_copyFrom 53 = .ok (.aload_n 1, 1) := by decide +kernel
theorem dX0_copyFrom_54 : decode cX0_copyFrom 54 = .ok (.getfield 25, 3) := by decide +kernel
theorem dX0_copyFrom_57 : decode cX0_copyFrom 57 = .ok (.iconst 0, 1) := by decide +kernel
theorem dX0_copyFrom_58 : decode cX0_copyFrom 58 = .ok (.aload_n 0, 1) := by decide +kernel
theorem dX0_copyFrom_59 : decode cX0_copyFrom 59 = .ok (.getfield 25, 3) := by decide +kernel
theorem dX0_copyFrom_62 : decode cX0_copyFrom 62 = .ok (.iconst 0, 1) := by decide +kernel
theorem dX0_copyFrom_63 : decode cX0_copyFrom 63 = .ok (.bipush 8, 2) := by decide +kernel
theorem dX0_copyFrom_65 : decode cX0_copyFrom 65 = .ok (.invokestatic 52, 3) := by decide +kernel
theorem dX0_copyFrom_68 : decode cX0_copyFrom 68 = .ok (.aload_n 1, 1) := by decide +kernel
theorem dX0_copyFrom_69 : decode cX0_copyFrom 69 = .ok (.getfield 28, 3) := by decide +kernel
theorem dX0_copyFrom_72 : decode cX0_copyFrom 72 = .ok (.iconst 0, 1) := by decide +kernel
theorem dX0_copyFrom_73 : decode cX0_copyFrom 73 = .ok (.aload_n 0, 1) := by decide +kernel
theorem dX0_copyFrom_74 : decode cX0_copyFrom 74 = .ok (.getfield 28, 3) := by decide +kernel
theorem dX0_copyFrom_77 : decode cX0_copyFrom 77 = .ok (.iconst 0, 1) := by decide +kernel
theorem dX0_copyFrom_78 : decode cX0_copyFrom 78 = .ok (.bipush 8, 2) := by decide +kernel
theorem dX0_copyFrom_80 : decode cX0_copyFrom 80 = .ok (.invokestatic 52, 3) := by decide +kernel
theorem dX0_copyFrom_83 : decode cX0_copyFrom 83 = .ok (.aload_n 1, 1) := by decide +kernel
theorem dX0_copyFrom_84 : decode cX0_copyFrom 84 = .ok (.getfield 31, 3) := by decide +kernel
theorem dX0_copyFrom_87 : decode cX0_copyFrom 87 = .ok (.iconst 0, 1) := by decide +kernel
theorem dX0_copyFrom_88 : decode cX0_copyFrom 88 = .ok (.aload_n 0, 1) := by decide +kernel
theorem dX0_copyFrom_89 : decode cX0_copyFrom 89 = .ok (.getfield 31, 3) := by decide +kernel
theorem dX0_copyFrom_92 : decode cX0_copyFrom 92 = .ok (.iconst 0, 1) := by decide +kernel
theorem dX0_copyFrom_93 : decode cX0_copyFrom 93 = .ok (.bipush 8, 2) := by decide +kernel
theorem dX0_copyFrom_95 : decode cX0_copyFrom 95 = .ok (.invokestatic 52, 3) := by decide +kernel
theorem dX0_copyFrom_98 : decode cX0_copyFrom 98 = .ok (.aload_n 0, 1) := by decide +kernel
theorem dX0_copyFrom_99 : decode cX0_copyFrom 99 = .ok (.aload_n 1, 1) := by decide +kernel
theorem dX0_copyFrom_100 : decode cX0_copyFrom 100 = .ok (.getfield 34, 3) := by decide +kernel
theorem dX0_copyFrom_103 : decode cX0_copyFrom 103 = .ok (.putfield 34, 3) := by decide +kernel
theorem fp_0_7 : zFi 0 7 "I" := ⟨RX0, TX0, 13, rfl, rfl, rfl⟩
theorem dX0_copyFrom_106 : decode cX0_copyFrom 106 = .ok (.aload_n 1, 1) := by decide +kernel
theorem dX0_copyFrom_107 : decode cX0_copyFrom 107 = .ok (.getfield 37, 3) := by decide +kernel
theorem dX0_copyFrom_110 : decode cX0_copyFrom 110 = .ok (.iconst 0, 1) := by decide +kernel
theorem dX0_copyFrom_111 : decode cX0_copyFrom 111 = .ok (.aload_n 0, 1) := by decide +kernel
theorem dX0_copyFrom_112 : decode cX0_copyFrom 112 = .ok (.getfield 37, 3) := by decide +kernel
theorem dX0_copyFrom_115 : decode cX0_copyFrom 115 = .ok (.iconst 0, 1) := by decide +kernel
theorem dX0_copyFrom_116 : decode cX0_copyFrom 116 = .ok (.bipush 8, 2) := by decide +kernel
theorem dX0_copyFrom_118 : decode cX0_copyFrom 118 = .ok (.invokestatic 52, 3) := by decide +kernel
theorem dX0_copyFrom_121 : decode cX0_copyFrom 121 = .ok (.aload_n 1, 1) := by decide +kernel
theorem dX0_copyFrom_122 : decode cX0_copyFrom 122 = .ok (.getfield 40, 3) := by decide +kernel
theorem dX0_copyFrom_125 : decode cX0_copyFrom 125 = .ok (.iconst 0, 1) := by decide +kernel
theorem dX0_copyFrom_126 : decode cX0_copyFrom 126 = .ok (.aload_n 0, 1) := by decide +kernel
theorem dX0_copyFrom_127 : decode cX0_copyFrom 127 = .ok (.getfield 40, 3) := by decide +kernel
theorem dX0_copyFrom_130 : decode cX0_copyFrom 130 = .ok (.iconst 0, 1) := by decide +kernel
theorem dX0_copyFrom_131 : decode cX0_copyFrom 131 = .ok (.bipush 8, 2) := by decide +kernel
theorem dX0_copyFrom_133 : decode cX0_copyFrom 133 = .ok (.invokestatic 52, 3) := by decide +kernel
theorem dX0_copyFrom_136 : decode cX0_copyFrom 136 = .ok (.aload_n 0, 1) := by decide +kernel
theorem dX0_copyFrom_137 : decode cX0_copyFrom 137 = .ok (.aload_n 1, 1) := by decide +kernel
theorem dX0_copyFrom_138 : decode cX0_copyFrom 138 = .ok (.getfield 43, 3) := by decide +kernel
theorem fl_RX0_43 : zFl RX0 43 0 10 := ⟨RX0, TX0, 13, rfl, by decide, zmem1 124 (by decide +kernel) rfl, rfl⟩
theorem dX0_copyFrom_141 : decode cX0_copyFrom 141 = .ok (.putfield 43, 3) := by decide +kernel
theorem fp_0_10 : zFi 0 10 "I" := ⟨RX0, TX0, 13, rfl, rfl, rfl⟩
theorem dX0_copyFrom_144 : decode cX0_copyFrom 144 = .ok (.aload_n 1, 1) := by decide +kernel
theorem dX0_copyFrom_145 : decode cX0_copyFrom 145 = .ok (.getfield 46, 3) := by decide +kernel
theorem fl_RX0_46 : zFl RX0 46 0 11 := ⟨RX0, TX0, 13, rfl, by decide, zmem1 126 (by decide +kernel) rfl, rfl⟩
theorem dX0_copyFrom_148 : decode cX0_copyFrom 148 = .ok (.iconst 0, 1) := by decide +kernel
theorem dX0_copyFrom_149 : decode cX0_copyFrom 149 = .ok (.aload_n 0, 1) := by decide +kernel
theorem dX0_copyFrom_150 : decode cX0_copyFrom 150 = .ok (.getfield 46, 3) := by decide +kernel
theorem dX0_copyFrom_153 : decode cX0_copyFrom 153 = .ok (.iconst 0, 1) := by decide +kernel
theorem dX0_copyFrom_154 : decode cX0_copyFrom 154 = .ok (.bipush 12, 2) := by decide +kernel
theorem dX0_copyFrom_156 : decode cX0_copyFrom 156 = .ok (.invokestatic 52, 3) := by decide +kernel
theorem dX0_copyFrom_159 : decode cX0_copyFrom 159 = .ok (.aload_n 1, 1) := by decide +kernel
theorem dX0_copyFrom_160 : decode cX0_copyFrom 160 = .ok (.getfield 49, 3) := by decide +kernel
theorem fl_RX0_49 : zFl RX0 49 0 12 := ⟨RX0, TX0, 13, rfl, by decide, zmem1 127 (by decide +kernel) rfl, rfl⟩
theorem dX0_copyFrom_163 : decode cX0_copyFrom 163 = .ok (.iconst 0, 1) := by decide +kernel
theorem dX0_copyFrom_164 : decode cX0_copyFrom 164 = .ok (.aload_n 0, 1) := by decide +kernel
theorem dX0_copyFrom_165 : decode cX0_copyFrom 165 = .ok (.getfield 49, 3) := by decide +kernel
theorem dX0_copyFrom_168 : decode cX0_copyFrom 168 = .ok (.iconst 0, 1) := by decide +kernel
theorem dX0_copyFrom_169 : decode cX0_copyFrom 169 = .ok (.bipush 12, 2) := by decide +kernel
theorem dX0_copyFrom_171 : decode cX0_copyFrom 171 = .ok (.invokestatic 52, 3) := by decide +kernel
theorem dX0_copyFrom_174 : decode cX0_copyFrom 174 = .ok (.return_, 1) := by decide +kernel
abbrev mX2_copyFrom : zM := (yX2_copyFrom, cX2_copyFrom, 3, none, [])
theorem okX2_copyFrom : zMok mX2_copyFrom 1 := ⟨by decide, by decide, by decide +kernel⟩
theorem dX2_copyFrom_0 : decode cX2_copyFrom 0 = .ok (.aload_n 0, 1) := by decide +kernel
theorem dX2_copyFrom_1 : decode cX2_copyFrom 1 = .ok (.aload_n 1, 1) := by decide +kernel
theorem dX2_copyFrom_2 : decode cX2_copyFrom 2 = .ok (.getfield 9, 3) := by decide +kernel
theorem dX2_copyFrom_5 : decode cX2_copyFrom 5 = .ok (.putfield 9, 3) := by decide +kernel
theorem dX2_copyFrom_8 : decode cX2_copyFrom 8 = .ok (.aload_n 1, 1) := by decide +kernel
theorem dX2_copyFrom_9 : decode cX2_copyFrom 9 = .ok (.getfield 15, 3) := by decide +kernel
theorem dX2_copyFrom_12 : decode cX2_copyFrom 12 = .ok (.iconst 0, 1) := by decide +kernel
theorem dX2_copyFrom_13 : decode cX2_copyFrom 13 = .ok (.aload_n 0, 1) := by decide +kernel
theorem dX2_copyFrom_14 : decode cX2_copyFrom 14 = .ok (.getfield 15, 3) := by decide +kernel
theorem dX2_copyFrom_17 : decode cX2_copyFrom 17 = .ok (.iconst 0, 1) := by decide +kernel
theorem dX2_copyFrom_18 : decode cX2_copyFrom 18 = .ok (.bipush 40, 2) := by decide +kernel
theorem dX2_copyFrom_20 : decode cX2_copyFrom 20 = .ok (.invokestatic 38, 3) := by decide +kernel
theorem aw_RX2_38 : ∀ x ∈ ([.methodLink RX2 38 arraycopyName, .native arraycopyName, .static arraycopyName, .initialized "java/lang/System"] : List Cond), x ∈ zgood := zall [560, 555, 554, 26] (by decide +kernel) (by decide +kernel)
theorem dX2_copyFrom_23 : decode cX2_copyFrom 23 = .ok (.aload_n 1, 1) := by decide +kernel
theorem dX2_copyFrom_24 : decode cX2_copyFrom 24 = .ok (.getfield 19, 3) := by decide +kernel
theorem dX2_copyFrom_27 : decode cX2_copyFrom 27 = .ok (.iconst 0, 1) := by decide +kernel
theorem dX2_copyFrom_28 : decode cX2_copyFrom 28 = .ok (.aload_n 0, 1) := by decide +kernel
theorem dX2_copyFrom_29 : decode cX2_copyFrom 29 = .ok (.getfield 19, 3) := by decide +kernel
theorem dX2_copyFrom_32 : decode cX2_copyFrom 32 = .ok (.iconst 0, 1) := by decide +kernel
theorem dX2_copyFrom_33 : decode cX2_copyFrom 33 = .ok (.bipush 40, 2) := by decide +kernel
theorem dX2_copyFrom_35 : decode cX2_copyFrom 35 = .ok (.invokestatic 38, 3) := by decide +kernel
theorem dX2_copyFrom_38 : decode cX2_copyFrom 38 = .ok (.aload_n 1, 1) := by decide +kernel
theorem dX2_copyFrom_39 : decode cX2_copyFrom 39 = .ok (.getfield 22, 3) := by decide +kernel
theorem dX2_copyFrom_42 : decode cX2_copyFrom 42 = .ok (.iconst 0, 1) := by decide +kernel
theorem dX2_copyFrom_43 : decode cX2_copyFrom 43 = .ok (.aload_n 0, 1) := by decide +kernel
theorem dX2_copyFrom_44 : decode cX2_copyFrom 44 = .ok (.getfield 22, 3) := by decide +kernel
theorem dX2_copyFrom_47 : decode cX2_copyFrom 47 = .ok (.iconst 0, 1) := by decide +kernel
theorem dX2_copyFrom_48 : decode cX2_copyFrom 48 = .ok (.bipush 40, 2) := by decide +kernel
theorem dX2_copyFrom_50 : decode cX2_copyFrom 50 = .ok (.invokestatic 38, 3) := by decide +kernel
theorem dX2_copyFrom_53 : decode cX2_copyFrom 53 = .ok (.aload_n 1, 1) := by decide +kernel
theorem dX2_copyFrom_54 : decode cX2_copyFrom 54 = .ok (.getfield 25, 3) := by decide +kernel
theorem dX2_copyFrom_57 : decode cX2_copyFrom 57 = .ok (.iconst 0, 1) := by decide +kernel
theorem dX2_copyFrom_58 : decode cX2_copyFrom 58 = .ok (.aload_n 0, 1) := by decide +kernel
theorem dX2_copyFrom_59 : decode cX2_copyFrom 59 = .ok (.getfield 25, 3) := by decide +kernel
theorem dX2_copyFrom_62 : decode cX2_copyFrom 62 = .ok (.iconst 0, 1) := by decide +kernel
theorem dX2_copyFrom_63 : decode cX2_copyFrom 63 = .ok (.bipush 40, 2) := by decide +kernel
theorem dX2_copyFrom_65 : decode cX2_copyFrom 65 = .ok (.invokestatic 38, 3) := by decide +kernel
theorem dX2_copyFrom_68 : decode cX2_copyFrom 68 = .ok (.aload_n 1, 1) := by decide +kernel
theorem dX2_copyFrom_69 : decode cX2_copyFrom 69 = .ok (.getfield 35, 3) := by decide +kernel
theorem dX2_copyFrom_72 : decode cX2_copyFrom 72 = .ok (.iconst 0, 1) := by decide +kernel
theorem dX2_copyFrom_73 : decode cX2_copyFrom 73 = .ok (.aload_n 0, 1) := by decide +kernel
theorem dX2_copyFrom_74 : decode cX2_copyFrom 74 = .ok (.getfield 35, 3) := by decide +kernel
theorem dX2_copyFrom_77 : decode cX2_copyFrom 77 = .ok (.iconst 0, 1) := by decide +kernel
theorem dX2_copyFrom_78 : decode cX2_copyFrom 78 = .ok (.bipush 40, 2) := by decide +kernel
theorem dX2_copyFrom_80 : decode cX2_copyFrom 80 = .ok (.invokestatic 38, 3) := by decide +kernel
theorem dX2_copyFrom_83 : decode cX2_copyFrom 83 = .ok (.iconst 0, 1) := by decide +kernel
theorem dX2_copyFrom_84 : decode cX2_copyFrom 84 = .ok (.istore_n 2, 1) := by decide +kernel
theorem dX2_copyFrom_85 : decode cX2_copyFrom 85 = .ok (.iload_n 2, 1) := by decide +kernel
theorem dX2_copyFrom_86 : decode cX2_copyFrom 86 = .ok (.bipush 40, 2) := by decide +kernel
theorem dX2_copyFrom_88 : decode cX2_copyFrom 88 = .ok (.if_icmp .ge 33, 3) := by decide +kernel
theorem dX2_copyFrom_121 : decode cX2_copyFrom 121 = .ok (.return_, 1) := by decide +kernel
theorem dX2_copyFrom_91 : decode cX2_copyFrom 91 = .ok (.aload_n 0, 1) := by decide +kernel
theorem dX2_copyFrom_92 : decode cX2_copyFrom 92 = .ok (.getfield 28, 3) := by decide +kernel
theorem dX2_copyFrom_95 : decode cX2_copyFrom 95 = .ok (.iload_n 2, 1) := by decide +kernel
theorem dX2_copyFrom_96 : decode cX2_copyFrom 96 = .ok (.aload_n 1, 1) := by decide +kernel
theorem dX2_copyFrom_97 : decode cX2_copyFrom 97 = .ok (.getfield 28, 3) := by decide +kernel
theorem dX2_copyFrom_100 : decode cX2_copyFrom 100 = .ok (.iload_n 2, 1) := by decide +kernel
theorem dX2_copyFrom_101 : decode cX2_copyFrom 101 = .ok (.baload, 1) := by decide +kernel
theorem dX2_copyFrom_102 : decode cX2_copyFrom 102 = .ok (.bastore, 1) := by decide +kernel
theorem dX2_copyFrom_103 : decode cX2_copyFrom 103 = .ok (.aload_n 0, 1) := by decide +kernel
theorem dX2_copyFrom_104 : decode cX2_copyFrom 104 = .ok (.getfield 32, 3) := by decide +kernel
theorem dX2_copyFrom_107 : decode cX2_copyFrom 107 = .ok (.iload_n 2, 1) := by decide +kernel
theorem dX2_copyFrom_108 : decode cX2_copyFrom 108 = .ok (.aload_n 1, 1) := by decide +kernel
theorem dX2_copyFrom_109 : decode cX2_copyFrom 109 = .ok (.getfield 32, 3) := by decide +kernel
theorem dX2_copyFrom_112 : decode cX2_copyFrom 112 = .ok (.iload_n 2, 1) := by decide +kernel
theorem dX2_copyFrom_113 : decode cX2_copyFrom 113 = .ok (.baload, 1) := by decide +kernel
theorem dX2_copyFrom_114 : decode cX2_copyFrom 114 = .ok (.bastore, 1) := by decide +kernel
theorem dX2_copyFrom_115 : decode cX2_copyFrom 115 = .ok (.iinc 2 1, 3) := by decide +kernel
theorem dX2_copyFrom_118 : decode cX2_copyFrom 118 = .ok (.goto (-33), 3) := by decide +kernel
abbrev mX1_copyFrom : zM := (yX1_copyFrom, cX1_copyFrom, 2, none, [])
theorem okX1_copyFrom : zMok mX1_copyFrom 1 := ⟨by decide, by decide, by decide +kernel⟩
theorem dX1_copyFrom_0 : decode cX1_copyFrom 0 = .ok (.aload_n 0, 1) := by decide +kernel
theorem dX1_copyFrom_1 : decode cX1_copyFrom 1 = .ok (.getfield 12, 3) := by decide +kernel
theorem dX1_copyFrom_4 : decode cX1_copyFrom 4 = .ok (.aload_n 1, 1) := by decide +kernel
theorem dX1_copyFrom_5 : decode cX1_copyFrom 5 = .ok (.getfield 12, 3) := by decide +kernel
theorem dX1_copyFrom_8 : decode cX1_copyFrom 8 = .ok (.invokevirtual 32, 3) := by decide +kernel
theorem cw_RX1_32 : zCwV RX1 32 mX0_copyFrom := zall [549, 550, 551, 35, 552] (by decide +kernel) (by decide +kernel)
theorem dX1_copyFrom_11 : decode cX1_copyFrom 11 = .ok (.aload_n 0, 1) := by decide +kernel
theorem dX1_copyFrom_12 : decode cX1_copyFrom 12 = .ok (.getfield 21, 3) := by decide +kernel
theorem dX1_copyFrom_15 : decode cX1_copyFrom 15 = .ok (.aload_n 1, 1) := by decide +kernel
theorem dX1_copyFrom_16 : decode cX1_copyFrom 16 = .ok (.getfield 21, 3) := by decide +kernel
theorem dX1_copyFrom_19 : decode cX1_copyFrom 19 = .ok (.invokevirtual 36, 3) := by decide +kernel
theorem cw_RX1_36 : zCwV RX1 36 mX2_copyFrom := zall [556, 557, 558, 36, 559] (by decide +kernel) (by decide +kernel)
theorem dX1_copyFrom_22 : decode cX1_copyFrom 22 = .ok (.return_, 1) := by decide +kernel
abbrev mX0_addPrinter : zM := (yX0_addPrinter, cX0_addPrinter, 5, none, [])
theorem okX0_addPrinter : zMok mX0_addPrinter 4 := ⟨by decide, by decide, by decide +kernel⟩
theorem dX0_addPrinter_0 : decode cX0_addPrinter 0 = .ok (.aload_n 0, 1) := by decide +kernel
theorem dX0_addPrinter_1 : decode cX0_addPrinter 1 = .ok (.getfield 9, 3) := by decide +kernel
theorem dX0_addPrinter_4 : decode cX0_addPrinter 4 = .ok (.ifCond .lt 12, 3) := by decide +kernel
theorem dX0_addPrinter_7 : decode cX0_addPrinter 7 = .ok (.aload_n 0, 1) := by decide +kernel
theorem dX0_addPrinter_8 : decode cX0_addPrinter 8 = .ok (.getfield 9, 3) := by decide +kernel
theorem dX0_addPrinter_11 : decode cX0_addPrinter 11 = .ok (.bipush 8, 2) := by decide +kernel
theorem dX0_addPrinter_13 : decode cX0_addPrinter 13 = .ok (.if_icmp .lt 4, 3) := by decide +kernel
theorem dX0_addPrinter_17 : decode cX0_addPrinter 17 = .ok (.aload_n 0, 1) := by decide +kernel
theorem dX0_addPrinter_18 : decode cX0_addPrinter 18 = .ok (.getfield 15, 3) := by decide +kernel
theorem dX0_addPrinter_21 : decode cX0_addPrinter 21 = .ok (.aload_n 0, 1) := by decide +kernel
theorem dX0_addPrinter_22 : decode cX0_addPrinter 22 = .ok (.getfield 9, 3) := by decide +kernel
theorem dX0_addPrinter_25 : decode cX0_addPrinter 25 = .ok (.iload_n 1, 1) := by decide +kernel
theorem dX0_addPrinter_26 : decode cX0_addPrinter 26 = .ok (.iastore, 1) := by decide +kernel
theorem dX0_addPrinter_27 : decode cX0_addPrinter 27 = .ok (.aload_n 0, 1) := by decide +kernel
theorem dX0_addPrinter_28 : decode cX0_addPrinter 28 = .ok (.getfield 19, 3) := by decide +kernel
theorem dX0_addPrinter_31 : decode cX0_addPrinter 31 = .ok (.aload_n 0, 1) := by decide +kernel
theorem dX0_addPrinter_32 : decode cX0_addPrinter 32 = .ok (.getfield 9, 3) := by decide +kernel
theorem dX0_addPrinter_35 : decode cX0_addPrinter 35 = .ok (.iload_n 2, 1) := by decide +kernel
theorem dX0_addPrinter_36 : decode cX0_addPrinter 36 = .ok (.iastore, 1) := by decide +kernel
theorem dX0_addPrinter_37 : decode cX0_addPrinter 37 = .ok (.aload_n 0, 1) := by decide +kernel
theorem dX0_addPrinter_38 : decode cX0_addPrinter 38 = .ok (.getfield 22, 3) := by decide +kernel
theorem dX0_addPrinter_41 : decode cX0_addPrinter 41 = .ok (.aload_n 0, 1) := by decide +kernel
theorem dX0_addPrinter_42 : decode cX0_addPrinter 42 = .ok (.getfield 9, 3) := by decide +kernel
theorem dX0_addPrinter_45 : decode cX0_addPrinter 45 = .ok (.iload_n 3, 1) := by decide +kernel
theorem dX0_addPrinter_46 : decode cX0_addPrinter 46 = .ok (.iastore, 1) := by decide +kernel
theorem dX0_addPrinter_47 : decode cX0_addPrinter 47 = .ok (.aload_n 0, 1) := by decide +kernel
theorem dX0_addPrinter_48 : decode cX0_addPrinter 48 = .ok (.getfield 25, 3) := by decide +kernel
theorem dX0_addPrinter_51 : decode cX0_addPrinter 51 = .ok (.aload_n 0, 1) := by decide +kernel
theorem dX0_addPrinter_52 : decode cX0_addPrinter 52 = .ok (.getfield 9, 3) := by decide +kernel
theorem dX0_addPrinter_55 : decode cX0_addPrinter 55 = .ok (.iload 4, 2) := by decide +kernel
theorem dX0_addPrinter_57 : decode cX0_addPrinter 57 = .ok (.iastore, 1) := by decide +kernel
theorem dX0_addPrinter_58 : decode cX0_addPrinter 58 = .ok (.aload_n 0, 1) := by decide +kernel
theorem dX0_addPrinter_59 : decode cX0_addPrinter 59 = .ok (.getfield 28, 3) := by decide +kernel
theorem dX0_addPrinter_62 : decode cX0_addPrinter 62 = .ok (.aload_n 0, 1) := by decide +kernel
theorem dX0_addPrinter_63 : decode cX0_addPrinter 63 = .ok (.getfield 9, 3) := by decide +kernel
theorem dX0_addPrinter_66 : decode cX0_addPrinter 66 = .ok (.iconst 0, 1) := by decide +kernel
theorem dX0_addPrinter_67 : decode cX0_addPrinter 67 = .ok (.iastore, 1) := by decide +kernel
theorem dX0_addPrinter_68 : decode cX0_addPrinter 68 = .ok (.aload_n 0, 1) := by decide +kernel
theorem dX0_addPrinter_69 : decode cX0_addPrinter 69 = .ok (.getfield 31, 3) := by decide +kernel
theorem dX0_addPrinter_72 : decode cX0_addPrinter 72 = .ok (.aload_n 0, 1) := by decide +kernel
theorem dX0_addPrinter_73 : decode cX0_addPrinter 73 = .ok (.getfield 9, 3) := by decide +kernel
theorem dX0_addPrinter_76 : decode cX0_addPrinter 76 = .ok (.iconst 0, 1) := by decide +kernel
theorem dX0_addPrinter_77 : decode cX0_addPrinter 77 = .ok (.iastore, 1) := by decide +kernel
theorem dX0_addPrinter_78 : decode cX0_addPrinter 78 = .ok (.aload_n 0, 1) := by decide +kernel
theorem dX0_addPrinter_79 : decode cX0_addPrinter 79 = .ok (.dup, 1) := by decide +kernel
theorem dX0_addPrinter_80 : decode cX0_addPrinter 80 = .ok (.getfield 9, 3) := by decide +kernel
theorem dX0_addPrinter_83 : decode cX0_addPrinter 83 = .ok (.iconst 1, 1) := by decide +kernel
theorem dX0_addPrinter_84 : decode cX0_addPrinter 84 = .ok (.iadd, 1) := by decide +kernel
theorem dX0_addPrinter_85 : decode cX0_addPrinter 85 = .ok (.putfield 9, 3) := by decide +kernel
theorem dX0_addPrinter_88 : decode cX0_addPrinter 88 = .ok (.return_, 1) := by decide +kernel
abbrev mX0_addWatermark : zM := (yX0_addWatermark, cX0_addWatermark, 3, none, [])
theorem okX0_addWatermark : zMok mX0_addWatermark 2 := ⟨by decide, by decide, by decide +kernel⟩
theorem dX0_addWatermark_0 : decode cX0_addWatermark 0 = .ok (.aload_n 0, 1) := by decide +kernel
theorem dX0_addWatermark_1 : decode cX0_addWatermark 1 = .ok (.getfield 34, 3) := by decide +kernel
theorem dX0_addWatermark_4 : decode cX0_addWatermark 4 = .ok (.ifCond .lt 12, 3) := by decide +kernel
theorem dX0_addWatermark_7 : decode cX0_addWatermark 7 = .ok (.aload_n 0, 1) := by decide +kernel
theorem dX0_addWatermark_8 : decode cX0_addWatermark 8 = .ok (.getfield 34, 3) := by decide +kernel
theorem dX0_addWatermark_11 : decode cX0_addWatermark 11 = .ok (.bipush 8, 2) := by decide +kernel
theorem dX0_addWatermark_13 : decode cX0_addWatermark 13 = .ok (.if_icmp .lt 4, 3) := by decide +kernel
theorem dX0_addWatermark_17 : decode cX0_addWatermark 17 = .ok (.aload_n 0, 1) := by decide +kernel
theorem dX0_addWatermark_18 : decode cX0_addWatermark 18 = .ok (.getfield 37, 3) := by decide +kernel
theorem dX0_addWatermark_21 : decode cX0_addWatermark 21 = .ok (.aload_n 0, 1) := by decide +kernel
theorem dX0_addWatermark_22 : decode cX0_addWatermark 22 = .ok (.getfield 34, 3) := by decide +kernel
theorem dX0_addWatermark_25 : decode cX0_addWatermark 25 = .ok (.iload_n 1, 1) := by decide +kernel
theorem dX0_addWatermark_26 : decode cX0_addWatermark 26 = .ok (.iastore, 1) := by decide +kernel
theorem dX0_addWatermark_27 : decode cX0_addWatermark 27 = .ok (.aload_n 0, 1) := by decide +kernel
theorem dX0_addWatermark_28 : decode cX0_addWatermark 28 = .ok (.getfield 40, 3) := by decide +kernel
theorem dX0_addWatermark_31 : decode cX0_addWatermark 31 = .ok (.aload_n 0, 1) := by decide +kernel
theorem dX0_addWatermark_32 : decode cX0_addWatermark 32 = .ok (.getfield 34, 3) := by decide +kernel
theorem dX0_addWatermark_35 : decode cX0_addWatermark 35 = .ok (.iload_n 2, 1) := by decide +kernel
theorem dX0_addWatermark_36 : decode cX0_addWatermark 36 = .ok (.iastore, 1) := by decide +kernel
theorem dX0_addWatermark_37 : decode cX0_addWatermark 37 = .ok (.aload_n 0, 1) := by decide +kernel
theorem dX0_addWatermark_38 : decode cX0_addWatermark 38 = .ok (.dup, 1) := by decide +kernel
theorem dX0_addWatermark_39 : decode cX0_addWatermark 39 = .ok (.getfield 34, 3) := by decide +kernel
theorem dX0_addWatermark_42 : decode cX0_addWatermark 42 = .ok (.iconst 1, 1) := by decide +kernel
theorem dX0_addWatermark_43 : decode cX0_addWatermark 43 = .ok (.iadd, 1) := by decide +kernel
theorem dX0_addWatermark_44 : decode cX0_addWatermark 44 = .ok (.putfield 34, 3) := by decide +kernel
theorem dX0_addWatermark_47 : decode cX0_addWatermark 47 = .ok (.return_, 1) := by decide +kernel
abbrev mX0_addEdition : zM := (yX0_addEdition, cX0_addEdition, 3, none, [])
theorem okX0_addEdition : zMok mX0_addEdition 2 := ⟨by decide, by decide, by decide +kernel⟩
theorem dX0_addEdition_0 : decode cX0_addEdition 0 = .ok (.aload_n 0, 1) := by decide +kernel
theorem dX0_addEdition_1 : decode cX0_addEdition 1 = .ok (.getfield 43, 3) := by decide +kernel
theorem dX0_addEdition_4 : decode cX0_addEdition 4 = .ok (.ifCond .lt 12, 3) := by decide +kernel
theorem dX0_addEdition_7 : decode cX0_addEdition 7 = .ok (.aload_n 0, 1) := by decide +kernel
theorem dX0_addEdition_8 : decode cX0_addEdition 8 = .ok (.getfield 43, 3) := by decide +kernel
theorem dX0_addEdition_11 : decode cX0_addEdition 11 = .ok (.bipush 12, 2) := by decide +kernel
theorem dX0_addEdition_13 : decode cX0_addEdition 13 = .ok (.if_icmp .lt 4, 3) := by decide +kernel
theorem dX0_addEdition_17 : decode cX0_addEdition 17 = .ok (.aload_n 0, 1) := by decide +kernel
theorem dX0_addEdition_18 : decode cX0_addEdition 18 = .ok (.getfield 46, 3) := by decide +kernel
theorem dX0_addEdition_21 : decode cX0_addEdition 21 = .ok (.aload_n 0, 1) := by decide +kernel
theorem dX0_addEdition_22 : decode cX0_addEdition 22 = .ok (.getfield 43, 3) := by decide +kernel
theorem dX0_addEdition_25 : decode cX0_addEdition 25 = .ok (.iload_n 1, 1) := by decide +kernel
theorem dX0_addEdition_26 : decode cX0_addEdition 26 = .ok (.iastore, 1) := by decide +kernel
theorem dX0_addEdition_27 : decode cX0_addEdition 27 = .ok (.aload_n 0, 1) := by decide +kernel
theorem dX0_addEdition_28 : decode cX0_addEdition 28 = .ok (.getfield 49, 3) := by decide +kernel
theorem dX0_addEdition_31 : decode cX0_addEdition 31 = .ok (.aload_n 0, 1) := by decide +kernel
theorem dX0_addEdition_32 : decode cX0_addEdition 32 = .ok (.getfield 43, 3) := by decide +kernel
theorem dX0_addEdition_35 : decode cX0_addEdition 35 = .ok (.iload_n 2, 1) := by decide +kernel
theorem dX0_addEdition_36 : decode cX0_addEdition 36 = .ok (.iastore, 1) := by decide +kernel
theorem dX0_addEdition_37 : decode cX0_addEdition 37 = .ok (.aload_n 0, 1) := by decide +kernel
theorem dX0_addEdition_38 : decode cX0_addEdition 38 = .ok (.dup, 1) := by decide +kernel
theorem dX0_addEdition_39 : decode cX0_addEdition 39 = .ok (.getfield 43, 3) := by decide +kernel
theorem dX0_addEdition_42 : decode cX0_addEdition 42 = .ok (.iconst 1, 1) := by decide +kernel
theorem dX0_addEdition_43 : decode cX0_addEdition 43 = .ok (.iadd, 1) := by decide +kernel
theorem dX0_addEdition_44 : decode cX0_addEdition 44 = .ok (.putfield 43, 3) := by decide +kernel
theorem dX0_addEdition_47 : decode cX0_addEdition 47 = .ok (.return_, 1) := by decide +kernel
abbrev mX0_clear : zM := (yX0_clear, cX0_clear, 1, none, [])
theorem okX0_clear : zMok mX0_clear 0 := ⟨by decide, by decide, by decide +kernel⟩
theorem dX0_clear_0 : decode cX0_clear 0 = .ok (.aload_n 0, 1) := by decide +kernel
theorem dX0_clear_1 : decode cX0_clear 1 = .ok (.iconst 0, 1) := by decide +kernel
theorem dX0_clear_2 : decode cX0_clear 2 = .ok (.putfield 9, 3) := by decide +kernel
theorem dX0_clear_5 : decode cX0_clear 5 = .ok (.aload_n 0, 1) := by decide +kernel
theorem dX0_clear_6 : decode cX0_clear 6 = .ok (.iconst 0, 1) := by decide +kernel
theorem dX0_clear_7 : decode cX0_clear 7 = .ok (.putfield 34, 3) := by decide +kernel
theorem dX0_clear_10 : decode cX0_clear 10 = .ok (.aload_n 0, 1) := by decide +kernel
theorem dX0_clear_11 : decode cX0_clear 11 = .ok (.iconst 0, 1) := by decide +kernel
theorem dX0_clear_12 : decode cX0_clear 12 = .ok (.putfield 43, 3) := by decide +kernel
theorem dX0_clear_15 : decode cX0_clear 15 = .ok (.return_, 1) := by decide +kernel
abbrev mX1_clear : zM := (yX1_clear, cX1_clear, 1, none, [])
theorem okX1_clear : zMok mX1_clear 0 := ⟨by decide, by decide, by decide +kernel⟩
theorem dX1_clear_0 : decode cX1_clear 0 = .ok (.aload_n 0, 1) := by decide +kernel
theorem dX1_clear_1 : decode cX1_clear 1 = .ok (.getfield 12, 3) := by decide +kernel
theorem dX1_clear_4 : decode cX1_clear 4 = .ok (.invokevirtual 25, 3) := by decide +kernel
theorem cw_RX1_25 : zCwV RX1 25 mX0_clear := zall [383, 384, 385, 35, 386] (by decide +kernel) (by decide +kernel)
theorem dX1_clear_7 : decode cX1_clear 7 = .ok (.aload_n 0, 1) := by decide +kernel
theorem dX1_clear_8 : decode cX1_clear 8 = .ok (.getfield 21, 3) := by decide +kernel
theorem dX1_clear_11 : decode cX1_clear 11 = .ok (.iconst 0, 1) := by decide +kernel
theorem dX1_clear_12 : decode cX1_clear 12 = .ok (.putfield 28, 3) := by decide +kernel
theorem fl_RX1_28 : zFl RX1 28 2 0 := ⟨RX2, TX2, 8, rfl, by decide, zmem1 163 (by decide +kernel) rfl, rfl⟩
theorem dX1_clear_15 : decode cX1_clear 15 = .ok (.return_, 1) := by decide +kernel
abbrev mX1_drop : zM := (yX1_drop, cX1_drop, 2, (some .int), [])
theorem okX1_drop : zMok mX1_drop 1 := ⟨by decide, by decide, by decide +kernel⟩
theorem dX1_drop_0 : decode cX1_drop 0 = .ok (.aload_n 0, 1) := by decide +kernel
theorem dX1_drop_1 : decode cX1_drop 1 = .ok (.getfield 21, 3) := by decide +kernel
theorem dX1_drop_4 : decode cX1_drop 4 = .ok (.iload_n 1, 1) := by decide +kernel
theorem dX1_drop_5 : decode cX1_drop 5 = .ok (.invokevirtual 62, 3) := by decide +kernel
theorem dX1_drop_8 : decode cX1_drop 8 = .ok (.ifCond .ne 5, 3) := by decide +kernel
theorem dX1_drop_13 : decode cX1_drop 13 = .ok (.aload_n 0, 1) := by decide +kernel
theorem dX1_drop_14 : decode cX1_drop 14 = .ok (.getfield 21, 3) := by decide +kernel
theorem dX1_drop_17 : decode cX1_drop 17 = .ok (.getfield 66, 3) := by decide +kernel
theorem fl_RX1_66 : zFl RX1 66 2 6 := ⟨RX2, TX2, 8, rfl, by decide, zmem1 182 (by decide +kernel) rfl, rfl⟩
theorem dX1_drop_20 : decode cX1_drop 20 = .ok (.iload_n 1, 1) := by decide +kernel
theorem dX1_drop_21 : decode cX1_drop 21 = .ok (.baload, 1) := by decide +kernel
theorem dX1_drop_22 : decode cX1_drop 22 = .ok (.ifCond .eq 5, 3) := by decide +kernel
theorem dX1_drop_27 : decode cX1_drop 27 = .ok (.aload_n 0, 1) := by decide +kernel
theorem dX1_drop_28 : decode cX1_drop 28 = .ok (.getfield 21, 3) := by decide +kernel
theorem dX1_drop_31 : decode cX1_drop 31 = .ok (.getfield 66, 3) := by decide +kernel
theorem dX1_drop_34 : decode cX1_drop 34 = .ok (.iload_n 1, 1) := by decide +kernel
theorem dX1_drop_35 : decode cX1_drop 35 = .ok (.iconst 1, 1) := by decide +kernel
theorem dX1_drop_36 : decode cX1_drop 36 = .ok (.bastore, 1) := by decide +kernel
theorem dX1_drop_37 : decode cX1_drop 37 = .ok (.iconst 0, 1) := by decide +kernel
theorem dX1_drop_38 : decode cX1_drop 38 = .ok (.ireturn, 1) := by decide +kernel
theorem dX1_drop_25 : decode cX1_drop 25 = .ok (.iconst 3, 1) := by decide +kernel
theorem dX1_drop_26 : decode cX1_drop 26 = .ok (.ireturn, 1) := by decide +kernel
theorem dX1_drop_11 : decode cX1_drop 11 = .ok (.iconst 1, 1) := by decide +kernel
theorem dX1_drop_12 : decode cX1_drop 12 = .ok (.ireturn, 1) := by decide +kernel
abbrev mX1_pickUp : zM := (yX1_pickUp, cX1_pickUp, 2, (some .int), [])
theorem okX1_pickUp : zMok mX1_pickUp 1 := ⟨by decide, by decide, by decide +kernel⟩
theorem dX1_pickUp_0 : decode cX1_pickUp 0 = .ok (.aload_n 0, 1) := by decide +kernel
theorem dX1_pickUp_1 : decode cX1_pickUp 1 = .ok (.getfield 21, 3) := by decide +kernel
theorem dX1_pickUp_4 : decode cX1_pickUp 4 = .ok (.iload_n 1, 1) := by decide +kernel
theorem dX1_pickUp_5 : decode cX1_pickUp 5 = .ok (.invokevirtual 62, 3) := by decide +kernel
theorem dX1_pickUp_8 : decode cX1_pickUp 8 = .ok (.ifCond .ne 5, 3) := by decide +kernel
theorem dX1_pickUp_13 : decode cX1_pickUp 13 = .ok (.aload_n 0, 1) := by decide +kernel
theorem dX1_pickUp_14 : decode cX1_pickUp 14 = .ok (.getfield 21, 3) := by decide +kernel
theorem dX1_pickUp_17 : decode cX1_pickUp 17 = .ok (.getfield 66, 3) := by decide +kernel
theorem dX1_pickUp_20 : decode cX1_pickUp 20 = .ok (.iload_n 1, 1) := by decide +kernel
theorem dX1_pickUp_21 : decode cX1_pickUp 21 = .ok (.baload, 1) := by decide +kernel
theorem dX1_pickUp_22 : decode cX1_pickUp 22 = .ok (.ifCond .ne 5, 3) := by decide +kernel
theorem dX1_pickUp_27 : decode cX1_pickUp 27 = .ok (.aload_n 0, 1) := by decide +kernel
theorem dX1_pickUp_28 : decode cX1_pickUp 28 = .ok (.getfield 21, 3) := by decide +kernel
theorem dX1_pickUp_31 : decode cX1_pickUp 31 = .ok (.getfield 66, 3) := by decide +kernel
theorem dX1_pickUp_34 : decode cX1_pickUp 34 = .ok (.iload_n 1, 1) := by decide +kernel
theorem dX1_pickUp_35 : decode cX1_pickUp 35 = .ok (.iconst 0, 1) := by decide +kernel
theorem dX1_pickUp_36 : decode cX1_pickUp 36 = .ok (.bastore, 1) := by decide +kernel
theorem dX1_pickUp_37 : decode cX1_pickUp 37 = .ok (.iconst 0, 1) := by decide +kernel
theorem dX1_pickUp_38 : decode cX1_pickUp 38 = .ok (.ireturn, 1) := by decide +kernel
theorem dX1_pickUp_25 : decode cX1_pickUp 25 = .ok (.iconst 3, 1) := by decide +kernel
theorem dX1_pickUp_26 : decode cX1_pickUp 26 = .ok (.ireturn, 1) := by decide +kernel
theorem dX1_pickUp_11 : decode cX1_pickUp 11 = .ok (.iconst 1, 1) := by decide +kernel
theorem dX1_pickUp_12 : decode cX1_pickUp 12 = .ok (.ireturn, 1) := by decide +kernel
abbrev mX1_changeWeight : zM := (yX1_changeWeight, cX1_changeWeight, 3, (some .int), [])
theorem okX1_changeWeight : zMok mX1_changeWeight 2 := ⟨by decide, by decide, by decide +kernel⟩
theorem dX1_changeWeight_0 : decode cX1_changeWeight 0 = .ok (.aload_n 0, 1) := by decide +kernel
theorem dX1_changeWeight_1 : decode cX1_changeWeight 1 = .ok (.getfield 21, 3) := by decide +kernel
theorem dX1_changeWeight_4 : decode cX1_changeWeight 4 = .ok (.iload_n 1, 1) := by decide +kernel
theorem dX1_changeWeight_5 : decode cX1_changeWeight 5 = .ok (.invokevirtual 62, 3) := by decide +kernel
theorem dX1_changeWeight_8 : decode cX1_changeWeight 8 = .ok (.ifCond .ne 5, 3) := by decide +kernel
theorem dX1_changeWeight_13 : decode cX1_changeWeight 13 = .ok (.iload_n 2, 1) := by decide +kernel
theorem dX1_changeWeight_14 : decode cX1_changeWeight 14 = .ok (.iconst 1, 1) := by decide +kernel
theorem dX1_changeWeight_15 : decode cX1_changeWeight 15 = .ok (.bipush 9, 2) := by decide +kernel
theorem dX1_changeWeight_17 : decode cX1_changeWeight 17 = .ok (.invokestatic 39, 3) := by decide +kernel
theorem dX1_changeWeight_20 : decode cX1_changeWeight 20 = .ok (.ifCond .ne 5, 3) := by decide +kernel
theorem dX1_changeWeight_25 : decode cX1_changeWeight 25 = .ok (.aload_n 0, 1) := by decide +kernel
theorem dX1_changeWeight_26 : decode cX1_changeWeight 26 = .ok (.getfield 21, 3) := by decide +kernel
theorem dX1_changeWeight_29 : decode cX1_changeWeight 29 = .ok (.getfield 70, 3) := by decide +kernel
theorem fl_RX1_70 : zFl RX1 70 2 4 := ⟨RX2, TX2, 8, rfl, by decide, zmem1 176 (by decide +kernel) rfl, rfl⟩
theorem dX1_changeWeight_32 : decode cX1_changeWeight 32 = .ok (.iload_n 1, 1) := by decide +kernel
theorem dX1_changeWeight_33 : decode cX1_changeWeight 33 = .ok (.iload_n 2, 1) := by decide +kernel
theorem dX1_changeWeight_34 : decode cX1_changeWeight 34 = .ok (.iastore, 1) := by decide +kernel
theorem dX1_changeWeight_35 : decode cX1_changeWeight 35 = .ok (.iconst 0, 1) := by decide +kernel
theorem dX1_changeWeight_36 : decode cX1_changeWeight 36 = .ok (.ireturn, 1) := by decide +kernel
theorem dX1_changeWeight_23 : decode cX1_changeWeight 23 = .ok (.iconst 2, 1) := by decide +kernel
theorem dX1_changeWeight_24 : decode cX1_changeWeight 24 = .ok (.ireturn, 1) := by decide +kernel
theorem dX1_changeWeight_11 : decode cX1_changeWeight 11 = .ok (.iconst 1, 1) := by decide +kernel
theorem dX1_changeWeight_12 : decode cX1_changeWeight 12 = .ok (.ireturn, 1) := by decide +kernel
abbrev mX1_readOn : zM := (yX1_readOn, cX1_readOn, 2, (some .int), [])
theorem okX1_readOn : zMok mX1_readOn 1 := ⟨by decide, by decide, by decide +kernel⟩
theorem dX1_readOn_0 : decode cX1_readOn 0 = .ok (.iload_n 1, 1) := by decide +kernel
theorem dX1_readOn_1 : decode cX1_readOn 1 = .ok (.iconst 1, 1) := by decide +kernel
theorem dX1_readOn_2 : decode cX1_readOn 2 = .ok (.bipush 40, 2) := by decide +kernel
theorem dX1_readOn_4 : decode cX1_readOn 4 = .ok (.invokestatic 39, 3) := by decide +kernel
theorem dX1_readOn_7 : decode cX1_readOn 7 = .ok (.ifCond .ne 5, 3) := by decide +kernel
theorem dX1_readOn_10 : decode cX1_readOn 10 = .ok (.iconst 2, 1) := by decide +kernel
theorem dX1_readOn_11 : decode cX1_readOn 11 = .ok (.ireturn, 1) := by decide +kernel
theorem dX1_readOn_12 : decode cX1_readOn 12 = .ok (.aload_n 0, 1) := by decide +kernel
theorem dX1_readOn_13 : decode cX1_readOn 13 = .ok (.getfield 21, 3) := by decide +kernel
theorem dX1_readOn_16 : decode cX1_readOn 16 = .ok (.iload_n 1, 1) := by decide +kernel
theorem dX1_readOn_17 : decode cX1_readOn 17 = .ok (.invokevirtual 58, 3) := by decide +kernel
theorem cw_RX1_58 : zCwV RX1 58 mX2_learn := zall [816, 817, 818, 36, 819] (by decide +kernel) (by decide +kernel)
theorem dX1_readOn_20 : decode cX1_readOn 20 = .ok (.iconst 0, 1) := by decide +kernel
theorem dX1_readOn_21 : decode cX1_readOn 21 = .ok (.ireturn, 1) := by decide +kernel
abbrev mX1_enterClue : zM := (yX1_enterClue, cX1_enterClue, 5, (some .int), [])
theorem okX1_enterClue : zMok mX1_enterClue 4 := ⟨by decide, by decide, by decide +kernel⟩
theorem dX1_enterClue_0 : decode cX1_enterClue 0 = .ok (.iload_n 1, 1) := by decide +kernel
theorem dX1_enterClue_1 : decode cX1_enterClue 1 = .ok (.iconst 1, 1) := by decide +kernel
theorem dX1_enterClue_2 : decode cX1_enterClue 2 = .ok (.sipush 999, 3) := by decide +kernel
theorem dX1_enterClue_5 : decode cX1_enterClue 5 = .ok (.invokestatic 39, 3) := by decide +kernel
theorem dX1_enterClue_8 : decode cX1_enterClue 8 = .ok (.ifCond .eq 33, 3) := by decide +kernel
theorem dX1_enterClue_41 : decode cX1_enterClue 41 = .ok (.iconst 2, 1) := by decide +kernel
theorem dX1_enterClue_42 : decode cX1_enterClue 42 = .ok (.ireturn, 1) := by decide +kernel
theorem dX1_enterClue_11 : decode cX1_enterClue 11 = .ok (.iload 4, 2) := by decide +kernel
theorem dX1_enterClue_13 : decode cX1_enterClue 13 = .ok (.iconst 1, 1) := by decide +kernel
theorem dX1_enterClue_14 : decode cX1_enterClue 14 = .ok (.bipush 9, 2) := by decide +kernel
theorem dX1_enterClue_16 : decode cX1_enterClue 16 = .ok (.invokestatic 39, 3) := by decide +kernel
theorem dX1_enterClue_19 : decode cX1_enterClue 19 = .ok (.ifCond .eq 22, 3) := by decide +kernel
theorem dX1_enterClue_22 : decode cX1_enterClue 22 = .ok (.iload_n 3, 1) := by decide +kernel
theorem dX1_enterClue_23 : decode cX1_enterClue 23 = .ok (.iload_n 2, 1) := by decide +kernel
theorem dX1_enterClue_24 : decode cX1_enterClue 24 = .ok (.invokestatic 43, 3) := by decide +kernel
theorem cw_RX1_43 : zCwS RX1 43 mX0_lowestValue := zall [752, 492, 35, 493] (by decide +kernel) (by decide +kernel)
theorem dX1_enterClue_27 : decode cX1_enterClue 27 = .ok (.aload_n 0, 1) := by decide +kernel
theorem dX1_enterClue_28 : decode cX1_enterClue 28 = .ok (.getfield 12, 3) := by decide +kernel
theorem dX1_enterClue_31 : decode cX1_enterClue 31 = .ok (.iload_n 2, 1) := by decide +kernel
theorem dX1_enterClue_32 : decode cX1_enterClue 32 = .ok (.invokevirtual 47, 3) := by decide +kernel
theorem cw_RX1_47 : zCwV RX1 47 mX0_highestValue := zall [753, 495, 496, 35, 497] (by decide +kernel) (by decide +kernel)
theorem dX1_enterClue_35 : decode cX1_enterClue 35 = .ok (.invokestatic 39, 3) := by decide +kernel
theorem dX1_enterClue_38 : decode cX1_enterClue 38 = .ok (.ifCond .ne 5, 3) := by decide +kernel
theorem dX1_enterClue_43 : decode cX1_enterClue 43 = .ok (.aload_n 0, 1) := by decide +kernel
theorem dX1_enterClue_44 : decode cX1_enterClue 44 = .ok (.getfield 21, 3) := by decide +kernel
theorem dX1_enterClue_47 : decode cX1_enterClue 47 = .ok (.invokevirtual 50, 3) := by decide +kernel
theorem cw_RX1_50 : zCwV RX1 50 mX2_isFull := zall [754, 431, 432, 36, 433] (by decide +kernel) (by decide +kernel)
theorem dX1_enterClue_50 : decode cX1_enterClue 50 = .ok (.ifCond .eq 5, 3) := by decide +kernel
theorem dX1_enterClue_53 : decode cX1_enterClue 53 = .ok (.iconst 3, 1) := by decide +kernel
theorem dX1_enterClue_54 : decode cX1_enterClue 54 = .ok (.ireturn, 1) := by decide +kernel
theorem dX1_enterClue_55 : decode cX1_enterClue 55 = .ok (.aload_n 0, 1) := by decide +kernel
theorem dX1_enterClue_56 : decode cX1_enterClue 56 = .ok (.getfield 21, 3) := by decide +kernel
theorem dX1_enterClue_59 : decode cX1_enterClue 59 = .ok (.iload_n 1, 1) := by decide +kernel
theorem dX1_enterClue_60 : decode cX1_enterClue 60 = .ok (.iload_n 2, 1) := by decide +kernel
theorem dX1_enterClue_61 : decode cX1_enterClue 61 = .ok (.iload_n 3, 1) := by decide +kernel
theorem dX1_enterClue_62 : decode cX1_enterClue 62 = .ok (.iload 4, 2) := by decide +kernel
theorem dX1_enterClue_64 : decode cX1_enterClue 64 = .ok (.invokevirtual 54, 3) := by decide +kernel
theorem cw_RX1_54 : zCwV RX1 54 mX2_add := zall [755, 499, 500, 36, 501] (by decide +kernel) (by decide +kernel)
theorem dX1_enterClue_67 : decode cX1_enterClue 67 = .ok (.iconst 0, 1) := by decide +kernel
theorem dX1_enterClue_68 : decode cX1_enterClue 68 = .ok (.ireturn, 1) := by decide +kernel
abbrev mX5_prepare : zM := (yX5_prepare, cX5_prepare, 2, none, [])
theorem okX5_prepare : zMok mX5_prepare 1 := ⟨by decide, by decide, by decide +kernel⟩
theorem dX5_prepare_0 : decode cX5_prepare 0 = .ok (.aload_n 0, 1) := by decide +kernel
theorem dX5_prepare_1 : decode cX5_prepare 1 = .ok (.getfield 17, 3) := by decide +kernel
theorem fl_RX5_17 : zFl RX5 17 5 1 := ⟨RX5, TX5, 3, rfl, by decide, zmem1 258 (by decide +kernel) rfl, rfl⟩
theorem dX5_prepare_4 : decode cX5_prepare 4 = .ok (.ifCond .lt 40, 3) := by decide +kernel
theorem dX5_prepare_44 : decode cX5_prepare 44 = .ok (.return_, 1) := by decide +kernel
theorem dX5_prepare_7 : decode cX5_prepare 7 = .ok (.aload_n 0, 1) := by decide +kernel
theorem dX5_prepare_8 : decode cX5_prepare 8 = .ok (.getfield 17, 3) := by decide +kernel
theorem dX5_prepare_11 : decode cX5_prepare 11 = .ok (.aload_n 0, 1) := by decide +kernel
theorem dX5_prepare_12 : decode cX5_prepare 12 = .ok (.getfield 13, 3) := by decide +kernel
theorem fl_RX5_13 : zFl RX5 13 5 0 := ⟨RX5, TX5, 3, rfl, by decide, zmem1 257 (by decide +kernel) rfl, rfl⟩
theorem dX5_prepare_15 : decode cX5_prepare 15 = .ok (.arraylength, 1) := by decide +kernel
theorem dX5_prepare_16 : decode cX5_prepare 16 = .ok (.if_icmp .ge 28, 3) := by decide +kernel
theorem dX5_prepare_19 : decode cX5_prepare 19 = .ok (.aload_n 0, 1) := by decide +kernel
theorem dX5_prepare_20 : decode cX5_prepare 20 = .ok (.getfield 13, 3) := by decide +kernel
theorem dX5_prepare_23 : decode cX5_prepare 23 = .ok (.aload_n 0, 1) := by decide +kernel
theorem dX5_prepare_24 : decode cX5_prepare 24 = .ok (.getfield 17, 3) := by decide +kernel
theorem dX5_prepare_27 : decode cX5_prepare 27 = .ok (.aaload, 1) := by decide +kernel
theorem dX5_prepare_28 : decode cX5_prepare 28 = .ok (.ifnull 16, 3) := by decide +kernel
theorem dX5_prepare_31 : decode cX5_prepare 31 = .ok (.aload_n 0, 1) := by decide +kernel
theorem dX5_prepare_32 : decode cX5_prepare 32 = .ok (.getfield 13, 3) := by decide +kernel
theorem dX5_prepare_35 : decode cX5_prepare 35 = .ok (.aload_n 0, 1) := by decide +kernel
theorem dX5_prepare_36 : decode cX5_prepare 36 = .ok (.getfield 17, 3) := by decide +kernel
theorem dX5_prepare_39 : decode cX5_prepare 39 = .ok (.aaload, 1) := by decide +kernel
theorem dX5_prepare_40 : decode cX5_prepare 40 = .ok (.aload_n 1, 1) := by decide +kernel
theorem dX5_prepare_41 : decode cX5_prepare 41 = .ok (.invokevirtual 25, 3) := by decide +kernel
theorem cw_RX5_25 : zCwV RX5 25 mX1_copyFrom := zall [746, 546, 547, 34, 548] (by decide +kernel) (by decide +kernel)
abbrev mX5_commit : zM := (yX5_commit, cX5_commit, 1, none, [])
theorem okX5_commit : zMok mX5_commit 0 := ⟨by decide, by decide, by decide +kernel⟩
theorem dX5_commit_0 : decode cX5_commit 0 = .ok (.aload_n 0, 1) := by decide +kernel
theorem dX5_commit_1 : decode cX5_commit 1 = .ok (.aload_n 0, 1) := by decide +kernel
theorem dX5_commit_2 : decode cX5_commit 2 = .ok (.getfield 17, 3) := by decide +kernel
theorem dX5_commit_5 : decode cX5_commit 5 = .ok (.iconst 1, 1) := by decide +kernel
theorem dX5_commit_6 : decode cX5_commit 6 = .ok (.iadd, 1) := by decide +kernel
theorem dX5_commit_7 : decode cX5_commit 7 = .ok (.bipush 9, 2) := by decide +kernel
theorem dX5_commit_9 : decode cX5_commit 9 = .ok (.if_icmp .ge 12, 3) := by decide +kernel
theorem dX5_commit_21 : decode cX5_commit 21 = .ok (.iconst 0, 1) := by decide +kernel
theorem dX5_commit_22 : decode cX5_commit 22 = .ok (.putfield 17, 3) := by decide +kernel
theorem fp_5_1 : zFi 5 1 "I" := ⟨RX5, TX5, 3, rfl, rfl, rfl⟩
theorem dX5_commit_25 : decode cX5_commit 25 = .ok (.aload_n 0, 1) := by decide +kernel
theorem dX5_commit_26 : decode cX5_commit 26 = .ok (.aload_n 0, 1) := by decide +kernel
theorem dX5_commit_27 : decode cX5_commit 27 = .ok (.getfield 21, 3) := by decide +kernel
theorem fl_RX5_21 : zFl RX5 21 5 2 := ⟨RX5, TX5, 3, rfl, by decide, zmem1 259 (by decide +kernel) rfl, rfl⟩
theorem dX5_commit_30 : decode cX5_commit 30 = .ok (.iconst 1, 1) := by decide +kernel
theorem dX5_commit_31 : decode cX5_commit 31 = .ok (.iadd, 1) := by decide +kernel
theorem dX5_commit_32 : decode cX5_commit 32 = .ok (.bipush 8, 2) := by decide +kernel
theorem dX5_commit_34 : decode cX5_commit 34 = .ok (.invokestatic 29, 3) := by decide +kernel
theorem mw_RX5_29 : ∀ x ∈ ([.methodLink RX5 29 Lib.Math.min.name, .static Lib.Math.min.name, .initialized "java/lang/Math", .code Lib.Math.min.name Lib.Math.min.code 2 (some .int)] : List Cond), x ∈ zgood := zall [781, 782, 19, 783] (by decide +kernel) (by decide +kernel)
theorem dX5_commit_37 : decode cX5_commit 37 = .ok (.putfield 21, 3) := by decide +kernel
theorem fp_5_2 : zFi 5 2 "I" := ⟨RX5, TX5, 3, rfl, rfl, rfl⟩
theorem dX5_commit_40 : decode cX5_commit 40 = .ok (.return_, 1) := by decide +kernel
theorem dX5_commit_12 : decode cX5_commit 12 = .ok (.aload_n 0, 1) := by decide +kernel
theorem dX5_commit_13 : decode cX5_commit 13 = .ok (.getfield 17, 3) := by decide +kernel
theorem dX5_commit_16 : decode cX5_commit 16 = .ok (.iconst 1, 1) := by decide +kernel
theorem dX5_commit_17 : decode cX5_commit 17 = .ok (.iadd, 1) := by decide +kernel
theorem dX5_commit_18 : decode cX5_commit 18 = .ok (.goto 4, 3) := by decide +kernel
abbrev mX5_forget : zM := (yX5_forget, cX5_forget, 1, none, [])
theorem okX5_forget : zMok mX5_forget 0 := ⟨by decide, by decide, by decide +kernel⟩
theorem dX5_forget_0 : decode cX5_forget 0 = .ok (.aload_n 0, 1) := by decide +kernel
theorem dX5_forget_1 : decode cX5_forget 1 = .ok (.iconst 0, 1) := by decide +kernel
theorem dX5_forget_2 : decode cX5_forget 2 = .ok (.putfield 21, 3) := by decide +kernel
theorem dX5_forget_5 : decode cX5_forget 5 = .ok (.return_, 1) := by decide +kernel
abbrev mX5_bringBack : zM := (yX5_bringBack, cX5_bringBack, 2, none, [])
theorem okX5_bringBack : zMok mX5_bringBack 1 := ⟨by decide, by decide, by decide +kernel⟩
theorem dX5_bringBack_0 : decode cX5_bringBack 0 = .ok (.aload_n 0, 1) := by decide +kernel
theorem dX5_bringBack_1 : decode cX5_bringBack 1 = .ok (.aload_n 0, 1) := by decide +kernel
theorem dX5_bringBack_2 : decode cX5_bringBack 2 = .ok (.getfield 17, 3) := by decide +kernel
theorem dX5_bringBack_5 : decode cX5_bringBack 5 = .ok (.ifCond .le 12, 3) := by decide +kernel
theorem dX5_bringBack_8 : decode cX5_bringBack 8 = .ok (.aload_n 0, 1) := by decide +kernel
theorem dX5_bringBack_9 : decode cX5_bringBack 9 = .ok (.getfield 17, 3) := by decide +kernel
theorem dX5_bringBack_12 : decode cX5_bringBack 12 = .ok (.iconst 1, 1) := by decide +kernel
theorem dX5_bringBack_13 : decode cX5_bringBack 13 = .ok (.isub, 1) := by decide +kernel
theorem dX5_bringBack_14 : decode cX5_bringBack 14 = .ok (.goto 5, 3) := by decide +kernel
theorem dX5_bringBack_19 : decode cX5_bringBack 19 = .ok (.putfield 17, 3) := by decide +kernel
theorem dX5_bringBack_22 : decode cX5_bringBack 22 = .ok (.aload_n 0, 1) := by decide +kernel
theorem dX5_bringBack_23 : decode cX5_bringBack 23 = .ok (.aload_n 0, 1) := by decide +kernel
theorem dX5_bringBack_24 : decode cX5_bringBack 24 = .ok (.getfield 21, 3) := by decide +kernel
theorem dX5_bringBack_27 : decode cX5_bringBack 27 = .ok (.iconst 1, 1) := by decide +kernel
theorem dX5_bringBack_28 : decode cX5_bringBack 28 = .ok (.isub, 1) := by decide +kernel
theorem dX5_bringBack_29 : decode cX5_bringBack 29 = .ok (.iconst 0, 1) := by decide +kernel
theorem dX5_bringBack_30 : decode cX5_bringBack 30 = .ok (.invokestatic 35, 3) := by decide +kernel
theorem mw_RX5_35 : ∀ x ∈ ([.methodLink RX5 35 Lib.Math.max.name, .static Lib.Math.max.name, .initialized "java/lang/Math", .code Lib.Math.max.name Lib.Math.max.code 2 (some .int)] : List Cond), x ∈ zgood := zall [998, 874, 19, 875] (by decide +kernel) (by decide +kernel)
theorem dX5_bringBack_33 : decode cX5_bringBack 33 = .ok (.putfield 21, 3) := by decide +kernel
theorem dX5_bringBack_36 : decode cX5_bringBack 36 = .ok (.aload_n 0, 1) := by decide +kernel
theorem dX5_bringBack_37 : decode cX5_bringBack 37 = .ok (.getfield 17, 3) := by decide +kernel
theorem dX5_bringBack_40 : decode cX5_bringBack 40 = .ok (.aload_n 0, 1) := by decide +kernel
theorem dX5_bringBack_41 : decode cX5_bringBack 41 = .ok (.getfield 13, 3) := by decide +kernel
theorem dX5_bringBack_44 : decode cX5_bringBack 44 = .ok (.arraylength, 1) := by decide +kernel
theorem dX5_bringBack_45 : decode cX5_bringBack 45 = .ok (.if_icmp .ge 28, 3) := by decide +kernel
theorem dX5_bringBack_73 : decode cX5_bringBack 73 = .ok (.return_, 1) := by decide +kernel
theorem dX5_bringBack_48 : decode cX5_bringBack 48 = .ok (.aload_n 0, 1) := by decide +kernel
theorem dX5_bringBack_49 : decode cX5_bringBack 49 = .ok (.getfield 13, 3) := by decide +kernel
theorem dX5_bringBack_52 : decode cX5_bringBack 52 = .ok (.aload_n 0, 1) := by decide +kernel
theorem dX5_bringBack_53 : decode cX5_bringBack 53 = .ok (.getfield 17, 3) := by decide +kernel
theorem dX5_bringBack_56 : decode cX5_bringBack 56 = .ok (.aaload, 1) := by decide +kernel
theorem dX5_bringBack_57 : decode cX5_bringBack 57 = .ok (.ifnull 16, 3) := by decide +kernel
theorem dX5_bringBack_60 : decode cX5_bringBack 60 = .ok (.aload_n 1, 1) := by decide +kernel
theorem dX5_bringBack_61 : decode cX5_bringBack 61 = .ok (.aload_n 0, 1) := by decide +kernel
theorem dX5_bringBack_62 : decode cX5_bringBack 62 = .ok (.getfield 13, 3) := by decide +kernel
theorem dX5_bringBack_65 : decode cX5_bringBack 65 = .ok (.aload_n 0, 1) := by decide +kernel
theorem dX5_bringBack_66 : decode cX5_bringBack 66 = .ok (.getfield 17, 3) := by decide +kernel
theorem dX5_bringBack_69 : decode cX5_bringBack 69 = .ok (.aaload, 1) := by decide +kernel
theorem dX5_bringBack_70 : decode cX5_bringBack 70 = .ok (.invokevirtual 25, 3) := by decide +kernel
theorem dX5_bringBack_17 : decode cX5_bringBack 17 = .ok (.bipush 8, 2) := by decide +kernel

theorem nfw_34 : 8 + (nativeFrameWords "java/lang/System" "arraycopy" 5 + 11) ≤ 34 := by decide +kernel
def cpA (σ τ : zS) (o a : Nat) : Prop := (τ.1 a 0 = σ.1 o 0 ∧ τ.1 a 7 = σ.1 o 7 ∧ τ.1 a 10 = σ.1 o 10) ∧ (∀ j, 1 ≤ j → j ≤ 8 → ∀ i, i < 8 → τ.1 (a + j) i = σ.1 (o + j) i) ∧ ∀ j, 9 ≤ j → j ≤ 10 → ∀ i, i < 12 → τ.1 (a + j) i = σ.1 (o + j) i
def cpC (σ τ : zS) (o c : Nat) : Prop := τ.1 c 0 = σ.1 o 0 ∧ ∀ j, 1 ≤ j → j ≤ 7 → ∀ i, i < 40 → τ.1 (c + j) i = σ.1 (o + j) i

set_option maxRecDepth 20000 in
set_option maxHeartbeats 2000000 in
theorem sX0_copyFrom {l : Launch} {w : zW} (hfl : l.stackTraces = false) {σ : zS} {a o : Nat} (hz : zOK σ) (hd : o + 11 ≤ a ∨ a + 11 ≤ o) : Sp l w mX0_copyFrom 1 0 [zf 0 a, zf 0 o] σ (zqv (none) (fun τ => zOK τ ∧ zSame (fun q => a ≤ q ∧ q ≤ a + 10) σ τ ∧ cpA σ τ o a)) := by
  obtain ⟨Q, hQ⟩ : ∃ Q : zQ, Q = (zqv (none) (fun τ => zOK τ ∧ zSame (fun q => a ≤ q ∧ q ≤ a + 10) σ τ ∧ cpA σ τ o a)) := ⟨_, rfl⟩
  rw [← hQ]
  refine zx_enter hfl (by decide) rfl 0 rfl ?_
  show zX l w mX0_copyFrom (zMQ w 1 0 Q) 0 [zf 0 a, zf 0 o] [] 0 σ
  refine zx_aloadN dX0_copyFrom_0 rfl rfl ?_
  refine zx_aloadN dX0_copyFrom_1 rfl rfl ?_
  refine zy_getI fl_RX0_9 rfl dX0_copyFrom_2 rfl ?_
  refine zx_putI fl_RX0_9 rfl (Or.inl fp_0_0) dX0_copyFrom_5 ?_
  refine zx_aloadN dX0_copyFrom_8 rfl rfl ?_
  refine zy_getR (q' := o + 1) fl_RX0_15 rfl dX0_copyFrom_9 rfl ?_
  refine zx_iconst dX0_copyFrom_12 ?_
  refine zx_aloadN dX0_copyFrom_13 rfl rfl ?_
  refine zy_getR (q' := a + 1) fl_RX0_15 rfl dX0_copyFrom_14 rfl ?_
  refine zx_iconst dX0_copyFrom_17 ?_
  refine zx_bipush dX0_copyFrom_18 rfl ?_
  refine zx_copy rfl (by decide) rfl (by decide) (by decide) (by decide) (by decide) (by decide) aw_RX0_52 (Nat.le_of_ble_eq_true rfl) ⟨Nat.le_of_ble_eq_true rfl, nfw_34⟩ dX0_copyFrom_20 ?_
  refine zx_aloadN dX0_copyFrom_23 rfl rfl ?_
  refine zy_getR (q' := o + 2) fl_RX0_19 rfl dX0_copyFrom_24 rfl ?_
  refine zx_iconst dX0_copyFrom_27 ?_
  refine zx_aloadN dX0_copyFrom_28 rfl rfl ?_
  refine zy_getR (q' := a + 2) fl_RX0_19 rfl dX0_copyFrom_29 rfl ?_
  refine zx_iconst dX0_copyFrom_32 ?_
  refine zx_bipush dX0_copyFrom_33 rfl ?_
  refine zx_copy rfl (by decide) rfl (by decide) (by decide) (by decide) (by decide) (by decide) aw_RX0_52 (Nat.le_of_ble_eq_true rfl) ⟨Nat.le_of_ble_eq_true rfl, nfw_34⟩ dX0_copyFrom_35 ?_
  refine zx_aloadN dX0_copyFrom_38 rfl rfl ?_
  refine zy_getR (q' := o + 3) fl_RX0_22 rfl dX0_copyFrom_39 rfl ?_
  refine zx_iconst dX0_copyFrom_42 ?_
  refine zx_aloadN dX0_copyFrom_43 rfl rfl ?_
  refine zy_getR (q' := a + 3) fl_RX0_22 rfl dX0_copyFrom_44 rfl ?_
  refine zx_iconst dX0_copyFrom_47 ?_
  refine zx_bipush dX0_copyFrom_48 rfl ?_
  refine zx_copy rfl (by decide) rfl (by decide) (by decide) (by decide) (by decide) (by decide) aw_RX0_52 (Nat.le_of_ble_eq_true rfl) ⟨Nat.le_of_ble_eq_true rfl, nfw_34⟩ dX0_copyFrom_50 ?_
  refine zx_aloadN dX0_copyFrom_53 rfl rfl ?_
  refine zy_getR (q' := o + 4) fl_RX0_25 rfl dX0_copyFrom_54 rfl ?_
  refine zx_iconst dX0_copyFrom_57 ?_
  refine zx_aloadN dX0_copyFrom_58 rfl rfl ?_
  refine zy_getR (q' := a + 4) fl_RX0_25 rfl dX0_copyFrom_59 rfl ?_
  refine zx_iconst dX0_copyFrom_62 ?_
  refine zx_bipush dX0_copyFrom_63 rfl ?_
  refine zx_copy rfl (by decide) rfl (by decide) (by decide) (by decide) (by decide) (by decide) aw_RX0_52 (Nat.le_of_ble_eq_true rfl) ⟨Nat.le_of_ble_eq_true rfl, nfw_34⟩ dX0_copyFrom_65 ?_
  refine zx_aloadN dX0_copyFrom_68 rfl rfl ?_
  refine zy_getR (q' := o + 5) fl_RX0_28 rfl dX0_copyFrom_69 rfl ?_
  refine zx_iconst dX0_copyFrom_72 ?_
  refine zx_aloadN dX0_copyFrom_73 rfl rfl ?_
  refine zy_getR (q' := a + 5) fl_RX0_28 rfl dX0_copyFrom_74 rfl ?_
  refine zx_iconst dX0_copyFrom_77 ?_
  refine zx_bipush dX0_copyFrom_78 rfl ?_
  refine zx_copy rfl (by decide) rfl (by decide) (by decide) (by decide) (by decide) (by decide) aw_RX0_52 (Nat.le_of_ble_eq_true rfl) ⟨Nat.le_of_ble_eq_true rfl, nfw_34⟩ dX0_copyFrom_80 ?_
  refine zx_aloadN dX0_copyFrom_83 rfl rfl ?_
  refine zy_getR (q' := o + 6) fl_RX0_31 rfl dX0_copyFrom_84 rfl ?_
  refine zx_iconst dX0_copyFrom_87 ?_
  refine zx_aloadN dX0_copyFrom_88 rfl rfl ?_
  refine zy_getR (q' := a + 6) fl_RX0_31 rfl dX0_copyFrom_89 rfl ?_
  refine zx_iconst dX0_copyFrom_92 ?_
  refine zx_bipush dX0_copyFrom_93 rfl ?_
  refine zx_copy rfl (by decide) rfl (by decide) (by decide) (by decide) (by decide) (by decide) aw_RX0_52 (Nat.le_of_ble_eq_true rfl) ⟨Nat.le_of_ble_eq_true rfl, nfw_34⟩ dX0_copyFrom_95 ?_
  refine zx_aloadN dX0_copyFrom_98 rfl rfl ?_
  refine zx_aloadN dX0_copyFrom_99 rfl rfl ?_
  refine zy_getI (v := σ.1 o 7) fl_RX0_34 rfl dX0_copyFrom_100 ((zcpy_k _ _ _ _ _ (by omega)).trans ((zcpy_k _ _ _ _ _ (by omega)).trans ((zcpy_k _ _ _ _ _ (by omega)).trans ((zcpy_k _ _ _ _ _ (by omega)).trans ((zcpy_k _ _ _ _ _ (by omega)).trans ((zcpy_k _ _ _ _ _ (by omega)).trans (zput_k _ _ _ _ _ (by omega)))))))) ?_
  refine zx_putI fl_RX0_34 rfl (Or.inl fp_0_7) dX0_copyFrom_103 ?_
  refine zx_aloadN dX0_copyFrom_106 rfl rfl ?_
  refine zy_getR (q' := o + 7) fl_RX0_37 rfl dX0_copyFrom_107 rfl ?_
  refine zx_iconst dX0_copyFrom_110 ?_
  refine zx_aloadN dX0_copyFrom_111 rfl rfl ?_
  refine zy_getR (q' := a + 7) fl_RX0_37 rfl dX0_copyFrom_112 rfl ?_
  refine zx_iconst dX0_copyFrom_115 ?_
  refine zx_bipush dX0_copyFrom_116 rfl ?_
  refine zx_copy rfl (by decide) rfl (by decide) (by decide) (by decide) (by decide) (by decide) aw_RX0_52 (Nat.le_of_ble_eq_true rfl) ⟨Nat.le_of_ble_eq_true rfl, nfw_34⟩ dX0_copyFrom_118 ?_
  refine zx_aloadN dX0_copyFrom_121 rfl rfl ?_
  refine zy_getR (q' := o + 8) fl_RX0_40 rfl dX0_copyFrom_122 rfl ?_
  refine zx_iconst dX0_copyFrom_125 ?_
  refine zx_aloadN dX0_copyFrom_126 rfl rfl ?_
  refine zy_getR (q' := a + 8) fl_RX0_40 rfl dX0_copyFrom_127 rfl ?_
  refine zx_iconst dX0_copyFrom_130 ?_
  refine zx_bipush dX0_copyFrom_131 rfl ?_
  refine zx_copy rfl (by decide) rfl (by decide) (by decide) (by decide) (by decide) (by decide) aw_RX0_52 (Nat.le_of_ble_eq_true rfl) ⟨Nat.le_of_ble_eq_true rfl, nfw_34⟩ dX0_copyFrom_133 ?_
  refine zx_aloadN dX0_copyFrom_136 rfl rfl ?_
  refine zx_aloadN dX0_copyFrom_137 rfl rfl ?_
  refine zy_getI (v := σ.1 o 10) fl_RX0_43 rfl dX0_copyFrom_138 ((zcpy_k _ _ _ _ _ (by omega)).trans ((zcpy_k _ _ _ _ _ (by omega)).trans ((zput_k _ _ _ _ _ (by omega)).trans ((zcpy_k _ _ _ _ _ (by omega)).trans ((zcpy_k _ _ _ _ _ (by omega)).trans ((zcpy_k _ _ _ _ _ (by omega)).trans ((zcpy_k _ _ _ _ _ (by omega)).trans ((zcpy_k _ _ _ _ _ (by omega)).trans ((zcpy_k _ _ _ _ _ (by omega)).trans (zput_k _ _ _ _ _ (by omega))))))))))) ?_
  refine zx_putI fl_RX0_43 rfl (Or.inl fp_0_10) dX0_copyFrom_141 ?_
  refine zx_aloadN dX0_copyFrom_144 rfl rfl ?_
  refine zy_getR (q' := o + 9) fl_RX0_46 rfl dX0_copyFrom_145 rfl ?_
  refine zx_iconst dX0_copyFrom_148 ?_
  refine zx_aloadN dX0_copyFrom_149 rfl rfl ?_
  refine zy_getR (q' := a + 9) fl_RX0_46 rfl dX0_copyFrom_150 rfl ?_
  refine zx_iconst dX0_copyFrom_153 ?_
  refine zx_bipush dX0_copyFrom_154 rfl ?_
  refine zx_copy rfl (by decide) rfl (by decide) (by decide) (by decide) (by decide) (by decide) aw_RX0_52 (Nat.le_of_ble_eq_true rfl) ⟨Nat.le_of_ble_eq_true rfl, nfw_34⟩ dX0_copyFrom_156 ?_
  refine zx_aloadN dX0_copyFrom_159 rfl rfl ?_
  refine zy_getR (q' := o + 10) fl_RX0_49 rfl dX0_copyFrom_160 rfl ?_
  refine zx_iconst dX0_copyFrom_163 ?_
  refine zx_aloadN dX0_copyFrom_164 rfl rfl ?_
  refine zy_getR (q' := a + 10) fl_RX0_49 rfl dX0_copyFrom_165 rfl ?_
  refine zx_iconst dX0_copyFrom_168 ?_
  refine zx_bipush dX0_copyFrom_169 rfl ?_
  refine zx_copy rfl (by decide) rfl (by decide) (by decide) (by decide) (by decide) (by decide) aw_RX0_52 (Nat.le_of_ble_eq_true rfl) ⟨Nat.le_of_ble_eq_true rfl, nfw_34⟩ dX0_copyFrom_171 ?_
  refine zx_vret rfl dX0_copyFrom_174 ?_
  rw [hQ]
  refine ⟨rfl, ?_⟩
  refine ⟨(zOK_cpy (zOK_cpy (zOK_put (zOK_cpy (zOK_cpy (zOK_put (zOK_cpy (zOK_cpy (zOK_cpy (zOK_cpy (zOK_cpy (zOK_cpy (zOK_put hz (by first | exact hz _ _ | assumption | exact zr_b _ | exact zcmp_r _ _ | (unfold zr at *; omega))))))))) (by first | exact hz _ _ | assumption | exact zr_b _ | exact zcmp_r _ _ | (unfold zr at *; omega))))) (by first | exact hz _ _ | assumption | exact zr_b _ | exact zcmp_r _ _ | (unfold zr at *; omega))))), ⟨fun q hq i => by have hq2 := hq; dsimp only at hq2; exact ((zcpy_k _ _ _ _ _ (by omega)).trans ((zcpy_k _ _ _ _ _ (by omega)).trans ((zput_k _ _ _ _ _ (by omega)).trans ((zcpy_k _ _ _ _ _ (by omega)).trans ((zcpy_k _ _ _ _ _ (by omega)).trans ((zput_k _ _ _ _ _ (by omega)).trans ((zcpy_k _ _ _ _ _ (by omega)).trans ((zcpy_k _ _ _ _ _ (by omega)).trans ((zcpy_k _ _ _ _ _ (by omega)).trans ((zcpy_k _ _ _ _ _ (by omega)).trans ((zcpy_k _ _ _ _ _ (by omega)).trans ((zcpy_k _ _ _ _ _ (by omega)).trans (zput_k _ _ _ _ _ (by omega)))))))))))))), rfl⟩, ⟨((zcpy_k _ _ _ _ _ (by omega)).trans ((zcpy_k _ _ _ _ _ (by omega)).trans ((zput_i _ _ _ _ _ (by omega)).trans ((zcpy_k _ _ _ _ _ (by omega)).trans ((zcpy_k _ _ _ _ _ (by omega)).trans ((zput_i _ _ _ _ _ (by omega)).trans ((zcpy_k _ _ _ _ _ (by omega)).trans ((zcpy_k _ _ _ _ _ (by omega)).trans ((zcpy_k _ _ _ _ _ (by omega)).trans ((zcpy_k _ _ _ _ _ (by omega)).trans ((zcpy_k _ _ _ _ _ (by omega)).trans ((zcpy_k _ _ _ _ _ (by omega)).trans (zput_s _ _ _ _))))))))))))), ((zcpy_k _ _ _ _ _ (by omega)).trans ((zcpy_k _ _ _ _ _ (by omega)).trans ((zput_i _ _ _ _ _ (by omega)).trans ((zcpy_k _ _ _ _ _ (by omega)).trans ((zcpy_k _ _ _ _ _ (by omega)).trans (zput_s _ _ _ _)))))), ((zcpy_k _ _ _ _ _ (by omega)).trans ((zcpy_k _ _ _ _ _ (by omega)).trans (zput_s _ _ _ _)))⟩, fun j h1 h2 i hi => ?_, fun j h1 h2 i hi => ?_⟩
  · rcases (by omega : j = 1 ∨ j = 2 ∨ j = 3 ∨ j = 4 ∨ j = 5 ∨ j = 6 ∨ j = 7 ∨ j = 8) with rfl | rfl | rfl | rfl | rfl | rfl | rfl | rfl
    · exact ((zcpy_k _ _ _ _ _ (by omega)).trans ((zcpy_k _ _ _ _ _ (by omega)).trans ((zput_k _ _ _ _ _ (by omega)).trans ((zcpy_k _ _ _ _ _ (by omega)).trans ((zcpy_k _ _ _ _ _ (by omega)).trans ((zput_k _ _ _ _ _ (by omega)).trans ((zcpy_k _ _ _ _ _ (by omega)).trans ((zcpy_k _ _ _ _ _ (by omega)).trans ((zcpy_k _ _ _ _ _ (by omega)).trans ((zcpy_k _ _ _ _ _ (by omega)).trans ((zcpy_k _ _ _ _ _ (by omega)).trans ((zcpy_h _ _ _ _ (by omega)).trans (zput_k _ _ _ _ _ (by omega))))))))))))))
    · exact ((zcpy_k _ _ _ _ _ (by omega)).trans ((zcpy_k _ _ _ _ _ (by omega)).trans ((zput_k _ _ _ _ _ (by omega)).trans ((zcpy_k _ _ _ _ _ (by omega)).trans ((zcpy_k _ _ _ _ _ (by omega)).trans ((zput_k _ _ _ _ _ (by omega)).trans ((zcpy_k _ _ _ _ _ (by omega)).trans ((zcpy_k _ _ _ _ _ (by omega)).trans ((zcpy_k _ _ _ _ _ (by omega)).trans ((zcpy_k _ _ _ _ _ (by omega)).trans ((zcpy_h _ _ _ _ (by omega)).trans ((zcpy_k _ _ _ _ _ (by omega)).trans (zput_k _ _ _ _ _ (by omega))))))))))))))
    · exact ((zcpy_k _ _ _ _ _ (by omega)).trans ((zcpy_k _ _ _ _ _ (by omega)).trans ((zput_k _ _ _ _ _ (by omega)).trans ((zcpy_k _ _ _ _ _ (by omega)).trans ((zcpy_k _ _ _ _ _ (by omega)).trans ((zput_k _ _ _ _ _ (by omega)).trans ((zcpy_k _ _ _ _ _ (by omega)).trans ((zcpy_k _ _ _ _ _ (by omega)).trans ((zcpy_k _ _ _ _ _ (by omega)).trans ((zcpy_h _ _ _ _ (by omega)).trans ((zcpy_k _ _ _ _ _ (by omega)).trans ((zcpy_k _ _ _ _ _ (by omega)).trans (zput_k _ _ _ _ _ (by omega))))))))))))))
    · exact ((zcpy_k _ _ _ _ _ (by omega)).trans ((zcpy_k _ _ _ _ _ (by omega)).trans ((zput_k _ _ _ _ _ (by omega)).trans ((zcpy_k _ _ _ _ _ (by omega)).trans ((zcpy_k _ _ _ _ _ (by omega)).trans ((zput_k _ _ _ _ _ (by omega)).trans ((zcpy_k _ _ _ _ _ (by omega)).trans ((zcpy_k _ _ _ _ _ (by omega)).trans ((zcpy_h _ _ _ _ (by omega)).trans ((zcpy_k _ _ _ _ _ (by omega)).trans ((zcpy_k _ _ _ _ _ (by omega)).trans ((zcpy_k _ _ _ _ _ (by omega)).trans (zput_k _ _ _ _ _ (by omega))))))))))))))
    · exact ((zcpy_k _ _ _ _ _ (by omega)).trans ((zcpy_k _ _ _ _ _ (by omega)).trans ((zput_k _ _ _ _ _ (by omega)).trans ((zcpy_k _ _ _ _ _ (by omega)).trans ((zcpy_k _ _ _ _ _ (by omega)).trans ((zput_k _ _ _ _ _ (by omega)).trans ((zcpy_k _ _ _ _ _ (by omega)).trans ((zcpy_h _ _ _ _ (by omega)).trans ((zcpy_k _ _ _ _ _ (by omega)).trans ((zcpy_k _ _ _ _ _ (by omega)).trans ((zcpy_k _ _ _ _ _ (by omega)).trans ((zcpy_k _ _ _ _ _ (by omega)).trans (zput_k _ _ _ _ _ (by omega))))))))))))))
    · exact ((zcpy_k _ _ _ _ _ (by omega)).trans ((zcpy_k _ _ _ _ _ (by omega)).trans ((zput_k _ _ _ _ _ (by omega)).trans ((zcpy_k _ _ _ _ _ (by omega)).trans ((zcpy_k _ _ _ _ _ (by omega)).trans ((zput_k _ _ _ _ _ (by omega)).trans ((zcpy_h _ _ _ _ (by omega)).trans ((zcpy_k _ _ _ _ _ (by omega)).trans ((zcpy_k _ _ _ _ _ (by omega)).trans ((zcpy_k _ _ _ _ _ (by omega)).trans ((zcpy_k _ _ _ _ _ (by omega)).trans ((zcpy_k _ _ _ _ _ (by omega)).trans (zput_k _ _ _ _ _ (by omega))))))))))))))
    · exact ((zcpy_k _ _ _ _ _ (by omega)).trans ((zcpy_k _ _ _ _ _ (by omega)).trans ((zput_k _ _ _ _ _ (by omega)).trans ((zcpy_k _ _ _ _ _ (by omega)).trans ((zcpy_h _ _ _ _ (by omega)).trans ((zput_k _ _ _ _ _ (by omega)).trans ((zcpy_k _ _ _ _ _ (by omega)).trans ((zcpy_k _ _ _ _ _ (by omega)).trans ((zcpy_k _ _ _ _ _ (by omega)).trans ((zcpy_k _ _ _ _ _ (by omega)).trans ((zcpy_k _ _ _ _ _ (by omega)).trans ((zcpy_k _ _ _ _ _ (by omega)).trans (zput_k _ _ _ _ _ (by omega))))))))))))))
    · exact ((zcpy_k _ _ _ _ _ (by omega)).trans ((zcpy_k _ _ _ _ _ (by omega)).trans ((zput_k _ _ _ _ _ (by omega)).trans ((zcpy_h _ _ _ _ (by omega)).trans ((zcpy_k _ _ _ _ _ (by omega)).trans ((zput_k _ _ _ _ _ (by omega)).trans ((zcpy_k _ _ _ _ _ (by omega)).trans ((zcpy_k _ _ _ _ _ (by omega)).trans ((zcpy_k _ _ _ _ _ (by omega)).trans ((zcpy_k _ _ _ _ _ (by omega)).trans ((zcpy_k _ _ _ _ _ (by omega)).trans ((zcpy_k _ _ _ _ _ (by omega)).trans (zput_k _ _ _ _ _ (by omega))))))))))))))
  · rcases (by omega : j = 9 ∨ j = 10) with rfl | rfl
    · exact ((zcpy_k _ _ _ _ _ (by omega)).trans ((zcpy_h _ _ _ _ (by omega)).trans ((zput_k _ _ _ _ _ (by omega)).trans ((zcpy_k _ _ _ _ _ (by omega)).trans ((zcpy_k _ _ _ _ _ (by omega)).trans ((zput_k _ _ _ _ _ (by omega)).trans ((zcpy_k _ _ _ _ _ (by omega)).trans ((zcpy_k _ _ _ _ _ (by omega)).trans ((zcpy_k _ _ _ _ _ (by omega)).trans ((zcpy_k _ _ _ _ _ (by omega)).trans ((zcpy_k _ _ _ _ _ (by omega)).trans ((zcpy_k _ _ _ _ _ (by omega)).trans (zput_k _ _ _ _ _ (by omega))))))))))))))
    · exact ((zcpy_h _ _ _ _ (by omega)).trans ((zcpy_k _ _ _ _ _ (by omega)).trans ((zput_k _ _ _ _ _ (by omega)).trans ((zcpy_k _ _ _ _ _ (by omega)).trans ((zcpy_k _ _ _ _ _ (by omega)).trans ((zput_k _ _ _ _ _ (by omega)).trans ((zcpy_k _ _ _ _ _ (by omega)).trans ((zcpy_k _ _ _ _ _ (by omega)).trans ((zcpy_k _ _ _ _ _ (by omega)).trans ((zcpy_k _ _ _ _ _ (by omega)).trans ((zcpy_k _ _ _ _ _ (by omega)).trans ((zcpy_k _ _ _ _ _ (by omega)).trans (zput_k _ _ _ _ _ (by omega))))))))))))))
set_option maxRecDepth 20000 in
set_option maxHeartbeats 2000000 in
theorem sX2_copyFrom {l : Launch} {w : zW} (hfl : l.stackTraces = false) {σ : zS} {c o : Nat} (hz : zOK σ) (hd : o + 8 ≤ c ∨ c + 8 ≤ o) (hB : ∀ i, i < 40 → (σ.1 (o + 5) i = 0 ∨ σ.1 (o + 5) i = 1) ∧ (σ.1 (o + 6) i = 0 ∨ σ.1 (o + 6) i = 1)) : Sp l w mX2_copyFrom 1 0 [zf 2 c, zf 2 o] σ (zqv (none) (fun τ => zOK τ ∧ zSame (fun q => c ≤ q ∧ q ≤ c + 7) σ τ ∧ cpC σ τ o c)) := by
  obtain ⟨Q, hQ⟩ : ∃ Q : zQ, Q = (zqv (none) (fun τ => zOK τ ∧ zSame (fun q => c ≤ q ∧ q ≤ c + 7) σ τ ∧ cpC σ τ o c)) := ⟨_, rfl⟩
  rw [← hQ]
  refine zx_enter hfl (by decide) rfl 1 rfl ?_
  show zX l w mX2_copyFrom (zMQ w 1 0 Q) 0 [zf 2 c, zf 2 o, zu] [] 0 σ
  refine zx_aloadN dX2_copyFrom_0 rfl rfl ?_
  refine zx_aloadN dX2_copyFrom_1 rfl rfl ?_
  refine zy_getI fl_RX2_9 rfl dX2_copyFrom_2 rfl ?_
  refine zx_putI fl_RX2_9 rfl (Or.inl fp_2_0) dX2_copyFrom_5 ?_
  refine zx_aloadN dX2_copyFrom_8 rfl rfl ?_
  refine zy_getR (q' := o + 1) fl_RX2_15 rfl dX2_copyFrom_9 rfl ?_
  refine zx_iconst dX2_copyFrom_12 ?_
  refine zx_aloadN dX2_copyFrom_13 rfl rfl ?_
  refine zy_getR (q' := c + 1) fl_RX2_15 rfl dX2_copyFrom_14 rfl ?_
  refine zx_iconst dX2_copyFrom_17 ?_
  refine zx_bipush dX2_copyFrom_18 rfl ?_
  refine zx_copy rfl (by decide) rfl (by decide) (by decide) (by decide) (by decide) (by decide) aw_RX2_38 (Nat.le_of_ble_eq_true rfl) ⟨Nat.le_of_ble_eq_true rfl, nfw_34⟩ dX2_copyFrom_20 ?_
  refine zx_aloadN dX2_copyFrom_23 rfl rfl ?_
  refine zy_getR (q' := o + 2) fl_RX2_19 rfl dX2_copyFrom_24 rfl ?_
  refine zx_iconst dX2_copyFrom_27 ?_
  refine zx_aloadN dX2_copyFrom_28 rfl rfl ?_
  refine zy_getR (q' := c + 2) fl_RX2_19 rfl dX2_copyFrom_29 rfl ?_
  refine zx_iconst dX2_copyFrom_32 ?_
  refine zx_bipush dX2_copyFrom_33 rfl ?_
  refine zx_copy rfl (by decide) rfl (by decide) (by decide) (by decide) (by decide) (by decide) aw_RX2_38 (Nat.le_of_ble_eq_true rfl) ⟨Nat.le_of_ble_eq_true rfl, nfw_34⟩ dX2_copyFrom_35 ?_
  refine zx_aloadN dX2_copyFrom_38 rfl rfl ?_
  refine zy_getR (q' := o + 3) fl_RX2_22 rfl dX2_copyFrom_39 rfl ?_
  refine zx_iconst dX2_copyFrom_42 ?_
  refine zx_aloadN dX2_copyFrom_43 rfl rfl ?_
  refine zy_getR (q' := c + 3) fl_RX2_22 rfl dX2_copyFrom_44 rfl ?_
  refine zx_iconst dX2_copyFrom_47 ?_
  refine zx_bipush dX2_copyFrom_48 rfl ?_
  refine zx_copy rfl (by decide) rfl (by decide) (by decide) (by decide) (by decide) (by decide) aw_RX2_38 (Nat.le_of_ble_eq_true rfl) ⟨Nat.le_of_ble_eq_true rfl, nfw_34⟩ dX2_copyFrom_50 ?_
  refine zx_aloadN dX2_copyFrom_53 rfl rfl ?_
  refine zy_getR (q' := o + 4) fl_RX2_25 rfl dX2_copyFrom_54 rfl ?_
  refine zx_iconst dX2_copyFrom_57 ?_
  refine zx_aloadN dX2_copyFrom_58 rfl rfl ?_
  refine zy_getR (q' := c + 4) fl_RX2_25 rfl dX2_copyFrom_59 rfl ?_
  refine zx_iconst dX2_copyFrom_62 ?_
  refine zx_bipush dX2_copyFrom_63 rfl ?_
  refine zx_copy rfl (by decide) rfl (by decide) (by decide) (by decide) (by decide) (by decide) aw_RX2_38 (Nat.le_of_ble_eq_true rfl) ⟨Nat.le_of_ble_eq_true rfl, nfw_34⟩ dX2_copyFrom_65 ?_
  refine zx_aloadN dX2_copyFrom_68 rfl rfl ?_
  refine zy_getR (q' := o + 7) fl_RX2_35 rfl dX2_copyFrom_69 rfl ?_
  refine zx_iconst dX2_copyFrom_72 ?_
  refine zx_aloadN dX2_copyFrom_73 rfl rfl ?_
  refine zy_getR (q' := c + 7) fl_RX2_35 rfl dX2_copyFrom_74 rfl ?_
  refine zx_iconst dX2_copyFrom_77 ?_
  refine zx_bipush dX2_copyFrom_78 rfl ?_
  refine zx_copy rfl (by decide) rfl (by decide) (by decide) (by decide) (by decide) (by decide) aw_RX2_38 (Nat.le_of_ble_eq_true rfl) ⟨Nat.le_of_ble_eq_true rfl, nfw_34⟩ dX2_copyFrom_80 ?_
  refine zx_iconst dX2_copyFrom_83 ?_
  refine zy_istoreN [zf 2 c, zf 2 o, zi 0] dX2_copyFrom_84 rfl (Nat.le_of_ble_eq_true rfl) (Nat.le_of_ble_eq_true rfl) rfl rfl ?_
  have L85 : ∀ (N : Nat) (τ : zS) (i : Nat), (zOK τ) → (i ≤ 40) → (zSame (fun q => c ≤ q ∧ q ≤ c + 7) σ τ) → (τ.1 c 0 = σ.1 o 0) → (∀ j, (1 ≤ j ∧ j ≤ 4 ∨ j = 7) → ∀ i, i < 40 → τ.1 (c + j) i = σ.1 (o + j) i) → (∀ j, j < i → τ.1 (c + 5) j = σ.1 (o + 5) j ∧ τ.1 (c + 6) j = σ.1 (o + 6) j) → (41 - i) < N → zX l w mX2_copyFrom (zMQ w 1 0 Q) 85 [zf 2 c, zf 2 o, zi ((i : Nat) : Int)] [] 0 τ := by
    intro N
    induction N with
    | zero => intro τ i _ _ _ _ _ _ _; exact absurd (by assumption) (Nat.not_lt_zero _)
    | succ N ih85 =>
      intro τ i hz hi h1 h2 h3 h4 hN
      have q5 : ∀ j, τ.1 (o + 5) j = σ.1 (o + 5) j := h1.1 (o + 5) (by dsimp only; omega)
      have q6 : ∀ j, τ.1 (o + 6) j = σ.1 (o + 6) j := h1.1 (o + 6) (by dsimp only; omega)
      refine zx_iloadN dX2_copyFrom_85 rfl rfl ?_
      refine zx_bipush dX2_copyFrom_86 rfl ?_
      refine zx_icmp_ge (tgt := 121) (by first | exact hz _ _ | assumption | exact zr_b _ | exact zcmp_r _ _ | (unfold zr at *; omega)) (by first | exact hz _ _ | assumption | exact zr_b _ | exact zcmp_r _ _ | (unfold zr at *; omega)) dX2_copyFrom_88 (by decide) (fun h88 => ?_) (fun h88 => ?_)
      · refine zx_vret rfl dX2_copyFrom_121 ?_
        rw [hQ]
        refine ⟨rfl, ?_⟩
        refine ⟨hz, h1, h2, fun j hj1 hj2 i hi2 => ?_⟩
        by_cases e5 : j = 5
        · subst e5; exact (h4 i (by omega)).1
        · by_cases e6 : j = 6
          · subst e6; exact (h4 i (by omega)).2
          · exact h3 j (by omega) i hi2
      · have b5 := hB i (by omega)
        rw [← q5 i, ← q6 i] at b5
        refine zx_aloadN dX2_copyFrom_91 rfl rfl ?_
        refine zy_getR (q' := c + 5) fl_RX2_28 rfl dX2_copyFrom_92 rfl ?_
        refine zx_iloadN dX2_copyFrom_95 rfl rfl ?_
        refine zx_aloadN dX2_copyFrom_96 rfl rfl ?_
        refine zy_getR (q' := o + 5) fl_RX2_28 rfl dX2_copyFrom_97 rfl ?_
        refine zx_iloadN dX2_copyFrom_100 rfl rfl ?_
        refine zy_zald (v := τ.1 (o + 5) i) rfl (by decide) (by decide) dX2_copyFrom_101 (by omega) (by omega) rfl ?_
        refine zy_zast (i := i) rfl (by decide) (by decide) dX2_copyFrom_102 (by first | assumption | omega) (by omega) (by omega) rfl ?_
        refine zx_aloadN dX2_copyFrom_103 rfl rfl ?_
        refine zy_getR (q' := c + 6) fl_RX2_32 rfl dX2_copyFrom_104 rfl ?_
        refine zx_iloadN dX2_copyFrom_107 rfl rfl ?_
        refine zx_aloadN dX2_copyFrom_108 rfl rfl ?_
        refine zy_getR (q' := o + 6) fl_RX2_32 rfl dX2_copyFrom_109 rfl ?_
        refine zx_iloadN dX2_copyFrom_112 rfl rfl ?_
        refine zy_zald (v := τ.1 (o + 6) i) rfl (by decide) (by decide) dX2_copyFrom_113 (by omega) (by omega) (zput_k _ _ _ _ _ (by omega)) ?_
        refine zy_zast (i := i) rfl (by decide) (by decide) dX2_copyFrom_114 (by first | assumption | omega) (by omega) (by omega) rfl ?_
        refine zy_iinc (b := ((i + 1 : Nat) : Int)) [zf 2 c, zf 2 o, zi ((i + 1 : Nat) : Int)] dX2_copyFrom_115 rfl (by omega) (Nat.le_of_ble_eq_true rfl) rfl rfl ?_
        refine zx_goto (tgt := 85) dX2_copyFrom_118 (by decide) ?_
        exact ih85 (zput (zput τ (c + 5) i (τ.1 (o + 5) i)) (c + 6) i (τ.1 (o + 6) i)) (i + 1) (zOK_put (zOK_put hz (by first | exact hz _ _ | assumption | exact zr_b _ | exact zcmp_r _ _ | (unfold zr at *; omega))) (by first | exact hz _ _ | assumption | exact zr_b _ | exact zcmp_r _ _ | (unfold zr at *; omega))) (by first | assumption | omega) ⟨fun q hq j => by have hq2 := hq; dsimp only at hq2; exact ((zput_k _ _ _ _ _ (by omega)).trans (zput_k _ _ _ _ _ (by omega))).trans (h1.1 q hq j), h1.2⟩ (((zput_k _ _ _ _ _ (by omega)).trans (zput_k _ _ _ _ _ (by omega))).trans h2) (fun j hj i hi => ((zput_k _ _ _ _ _ (by omega)).trans (zput_k _ _ _ _ _ (by omega))).trans (h3 j hj i hi)) (fun j hj => by
              have q5 := h1.1 (o + 5) (by dsimp only; omega) i
              have q6 := h1.1 (o + 6) (by dsimp only; omega) i
              rcases Nat.lt_succ_iff_lt_or_eq.mp hj with q | rfl
              · exact ⟨((zput_k _ _ _ _ _ (by omega)).trans (zput_i _ _ _ _ _ (by omega))).trans (h4 j q).1, ((zput_i _ _ _ _ _ (by omega)).trans (zput_k _ _ _ _ _ (by omega))).trans (h4 j q).2⟩
              · exact ⟨((zput_k _ _ _ _ _ (by omega)).trans (zput_s _ _ _ _)).trans q5, (zput_s _ _ _ _).trans q6⟩) (by omega)
  exact L85 _ (zcpy (zcpy (zcpy (zcpy (zcpy (zput σ c 0 (σ.1 o 0)) (o + 1) (c + 1) 40) (o + 2) (c + 2) 40) (o + 3) (c + 3) 40) (o + 4) (c + 4) 40) (o + 7) (c + 7) 40) 0 (zOK_cpy (zOK_cpy (zOK_cpy (zOK_cpy (zOK_cpy (zOK_put hz (by first | exact hz _ _ | assumption | exact zr_b _ | exact zcmp_r _ _ | (unfold zr at *; omega)))))))) (by first | assumption | omega) ⟨fun q hq i => by have hq2 := hq; dsimp only at hq2; exact ((zcpy_k _ _ _ _ _ (by omega)).trans ((zcpy_k _ _ _ _ _ (by omega)).trans ((zcpy_k _ _ _ _ _ (by omega)).trans ((zcpy_k _ _ _ _ _ (by omega)).trans ((zcpy_k _ _ _ _ _ (by omega)).trans (zput_k _ _ _ _ _ (by omega))))))), rfl⟩ ((zcpy_k _ _ _ _ _ (by omega)).trans ((zcpy_k _ _ _ _ _ (by omega)).trans ((zcpy_k _ _ _ _ _ (by omega)).trans ((zcpy_k _ _ _ _ _ (by omega)).trans ((zcpy_k _ _ _ _ _ (by omega)).trans (zput_s _ _ _ _)))))) (fun j hj i hi => by rcases (by omega : j = 1 ∨ j = 2 ∨ j = 3 ∨ j = 4 ∨ j = 7) with rfl | rfl | rfl | rfl | rfl <;> first | exact ((zcpy_k _ _ _ _ _ (by omega)).trans ((zcpy_k _ _ _ _ _ (by omega)).trans ((zcpy_k _ _ _ _ _ (by omega)).trans ((zcpy_k _ _ _ _ _ (by omega)).trans ((zcpy_h _ _ _ _ (by omega)).trans (zput_k _ _ _ _ _ (by omega))))))) | exact ((zcpy_k _ _ _ _ _ (by omega)).trans ((zcpy_k _ _ _ _ _ (by omega)).trans ((zcpy_k _ _ _ _ _ (by omega)).trans ((zcpy_h _ _ _ _ (by omega)).trans ((zcpy_k _ _ _ _ _ (by omega)).trans (zput_k _ _ _ _ _ (by omega))))))) | exact ((zcpy_k _ _ _ _ _ (by omega)).trans ((zcpy_k _ _ _ _ _ (by omega)).trans ((zcpy_h _ _ _ _ (by omega)).trans ((zcpy_k _ _ _ _ _ (by omega)).trans ((zcpy_k _ _ _ _ _ (by omega)).trans (zput_k _ _ _ _ _ (by omega))))))) | exact ((zcpy_k _ _ _ _ _ (by omega)).trans ((zcpy_h _ _ _ _ (by omega)).trans ((zcpy_k _ _ _ _ _ (by omega)).trans ((zcpy_k _ _ _ _ _ (by omega)).trans ((zcpy_k _ _ _ _ _ (by omega)).trans (zput_k _ _ _ _ _ (by omega))))))) | exact ((zcpy_h _ _ _ _ (by omega)).trans ((zcpy_k _ _ _ _ _ (by omega)).trans ((zcpy_k _ _ _ _ _ (by omega)).trans ((zcpy_k _ _ _ _ _ (by omega)).trans ((zcpy_k _ _ _ _ _ (by omega)).trans (zput_k _ _ _ _ _ (by omega)))))))) (fun j hj => absurd hj (Nat.not_lt_zero j)) (Nat.lt_succ_self _)
set_option maxRecDepth 20000 in
set_option maxHeartbeats 2000000 in
theorem sX1_copyFrom {l : Launch} {w : zW} (hfl : l.stackTraces = false) {σ : zS} {k o : Nat} (hz : zOK σ) (hd : o + 20 ≤ k ∨ k + 20 ≤ o) (hB : ∀ i, i < 40 → (σ.1 (o + 17) i = 0 ∨ σ.1 (o + 17) i = 1) ∧ (σ.1 (o + 18) i = 0 ∨ σ.1 (o + 18) i = 1)) : Sp l w mX1_copyFrom 2 0 [zf 1 k, zf 1 o] σ (zqv (none) (fun τ => zOK τ ∧ zSame (fun q => k ≤ q ∧ q ≤ k + 19) σ τ ∧ cpA σ τ (o + 1) (k + 1) ∧ cpC σ τ (o + 12) (k + 12))) := by
  obtain ⟨Q, hQ⟩ : ∃ Q : zQ, Q = (zqv (none) (fun τ => zOK τ ∧ zSame (fun q => k ≤ q ∧ q ≤ k + 19) σ τ ∧ cpA σ τ (o + 1) (k + 1) ∧ cpC σ τ (o + 12) (k + 12))) := ⟨_, rfl⟩
  rw [← hQ]
  refine zx_enter hfl (by decide) rfl 0 rfl ?_
  show zX l w mX1_copyFrom (zMQ w 2 0 Q) 0 [zf 1 k, zf 1 o] [] 0 σ
  refine zx_aloadN dX1_copyFrom_0 rfl rfl ?_
  refine zy_getR (q' := k + 1) fl_RX1_12 rfl dX1_copyFrom_1 rfl ?_
  refine zx_aloadN dX1_copyFrom_4 rfl rfl ?_
  refine zy_getR (q' := o + 1) fl_RX1_12 rfl dX1_copyFrom_5 rfl ?_
  refine zy_cvvR [zf 0 (o + 1)] (sX0_copyFrom  hfl hz (by omega)) dX1_copyFrom_8 (by decide) rfl cw_RX1_32 okX0_copyFrom rfl (Nat.le_of_ble_eq_true rfl) ⟨Nat.le_of_ble_eq_true rfl, Nat.le_of_ble_eq_true rfl, Nat.le_of_ble_eq_true rfl, Nat.le_of_ble_eq_true rfl⟩ (fun τ8 hr8 => ?_)
  have hz8 : zOK τ8 := hr8.1
  refine zx_aloadN dX1_copyFrom_11 rfl rfl ?_
  refine zy_getR (q' := k + 12) fl_RX1_21 rfl dX1_copyFrom_12 rfl ?_
  refine zx_aloadN dX1_copyFrom_15 rfl rfl ?_
  refine zy_getR (q' := o + 12) fl_RX1_21 rfl dX1_copyFrom_16 rfl ?_
  refine zy_cvvR [zf 2 (o + 12)] (sX2_copyFrom  hfl hz8 (by omega) (fun i hi => by have e1 := hr8.2.1.1 (o + 17) (by dsimp only; omega) i; have e2 := hr8.2.1.1 (o + 18) (by dsimp only; omega) i; have := hB i hi; rw [show o + 12 + 5 = o + 17 from rfl, show o + 12 + 6 = o + 18 from rfl, e1, e2]; exact this)) dX1_copyFrom_19 (by decide) rfl cw_RX1_36 okX2_copyFrom rfl (Nat.le_of_ble_eq_true rfl) ⟨Nat.le_of_ble_eq_true rfl, Nat.le_of_ble_eq_true rfl, Nat.le_of_ble_eq_true rfl, Nat.le_of_ble_eq_true rfl⟩ (fun τ19 hr19 => ?_)
  have hz19 : zOK τ19 := hr19.1
  refine zx_vret rfl dX1_copyFrom_22 ?_
  rw [hQ]
  refine ⟨rfl, ?_⟩
  obtain ⟨-, s1, a1, a2, a3⟩ := hr8
  obtain ⟨z2, s2, c1, c2⟩ := hr19
  refine ⟨z2, zSame_tr s1 s2 (fun q hq => by first | omega | (dsimp only at hq ⊢; omega)), ⟨?_, fun j h1 h2 i hi => ?_, fun j h1 h2 i hi => ?_⟩, ?_, fun j h1 h2 i hi => ?_⟩
  · refine ⟨?_, ?_, ?_⟩ <;> rw [s2.1 (k + 1) (by dsimp only; omega)]
    · exact a1.1
    · exact a1.2.1
    · exact a1.2.2
  · rw [s2.1 (k + 1 + j) (by dsimp only; omega)]; exact a2 j h1 h2 i hi
  · rw [s2.1 (k + 1 + j) (by dsimp only; omega)]; exact a3 j h1 h2 i hi
  · rw [c1]; exact s1.1 (o + 12) (by dsimp only; omega) 0
  · rw [c2 j h1 h2 i hi]; exact s1.1 (o + 12 + j) (by dsimp only; omega) i
set_option maxRecDepth 20000 in
set_option maxHeartbeats 2000000 in
theorem sX0_addPrinter {l : Launch} {w : zW} (hfl : l.stackTraces = false) {σ : zS} {a : Nat} {x y u v : Int} (hz : zOK σ) (h1 : zr x) (h2 : zr y) (h3 : zr u) (h4 : zr v) (hP : 0 ≤ σ.1 a 0 ∧ σ.1 a 0 < 8) : Sp l w mX0_addPrinter 0 0 [zf 0 a, zi x, zi y, zi u, zi v] σ (zrtv (zput (zput (zput (zput (zput (zput (zput σ (a + 1) ((σ.1 a 0).toNat) x) (a + 2) ((σ.1 a 0).toNat) y) (a + 3) ((σ.1 a 0).toNat) u) (a + 4) ((σ.1 a 0).toNat) v) (a + 5) ((σ.1 a 0).toNat) 0) (a + 6) ((σ.1 a 0).toNat) 0) a 0 (σ.1 a 0 + 1))) := by
  obtain ⟨Q, hQ⟩ : ∃ Q : zQ, Q = (zrtv (zput (zput (zput (zput (zput (zput (zput σ (a + 1) ((σ.1 a 0).toNat) x) (a + 2) ((σ.1 a 0).toNat) y) (a + 3) ((σ.1 a 0).toNat) u) (a + 4) ((σ.1 a 0).toNat) v) (a + 5) ((σ.1 a 0).toNat) 0) (a + 6) ((σ.1 a 0).toNat) 0) a 0 (σ.1 a 0 + 1))) := ⟨_, rfl⟩
  rw [← hQ]
  refine zx_enter hfl (by decide) rfl 0 rfl ?_
  show zX l w mX0_addPrinter (zMQ w 0 0 Q) 0 [zf 0 a, zi x, zi y, zi u, zi v] [] 0 σ
  refine zx_aloadN dX0_addPrinter_0 rfl rfl ?_
  refine zy_getI fl_RX0_9 rfl dX0_addPrinter_1 rfl ?_
  refine zx_if_lt (tgt := 16) (by first | exact hz _ _ | assumption | exact zr_b _ | exact zcmp_r _ _ | (unfold zr at *; omega)) dX0_addPrinter_4 (by decide) (fun h4 => ?_) (fun h4 => ?_)
  · exfalso; omega
  · refine zx_aloadN dX0_addPrinter_7 rfl rfl ?_
    refine zy_getI fl_RX0_9 rfl dX0_addPrinter_8 rfl ?_
    refine zx_bipush dX0_addPrinter_11 rfl ?_
    refine zx_icmp_lt (tgt := 17) (by first | exact hz _ _ | assumption | exact zr_b _ | exact zcmp_r _ _ | (unfold zr at *; omega)) (by first | exact hz _ _ | assumption | exact zr_b _ | exact zcmp_r _ _ | (unfold zr at *; omega)) dX0_addPrinter_13 (by decide) (fun h13 => ?_) (fun h13 => ?_)
    · refine zx_aloadN dX0_addPrinter_17 rfl rfl ?_
      refine zy_getR (q' := a + 1) fl_RX0_15 rfl dX0_addPrinter_18 rfl ?_
      refine zx_aloadN dX0_addPrinter_21 rfl rfl ?_
      refine zy_getI fl_RX0_9 rfl dX0_addPrinter_22 rfl ?_
      refine zx_iloadN dX0_addPrinter_25 rfl rfl ?_
      refine zy_iast (i := (σ.1 a 0).toNat) rfl (by decide) (by decide) dX0_addPrinter_26 (by omega) (by omega) rfl ?_
      refine zx_aloadN dX0_addPrinter_27 rfl rfl ?_
      refine zy_getR (q' := a + 2) fl_RX0_19 rfl dX0_addPrinter_28 rfl ?_
      refine zx_aloadN dX0_addPrinter_31 rfl rfl ?_
      refine zy_getI (v := σ.1 a 0) fl_RX0_9 rfl dX0_addPrinter_32 (zput_k _ _ _ _ _ (by omega)) ?_
      refine zx_iloadN dX0_addPrinter_35 rfl rfl ?_
      refine zy_iast (i := (σ.1 a 0).toNat) rfl (by decide) (by decide) dX0_addPrinter_36 (by omega) (by omega) rfl ?_
      refine zx_aloadN dX0_addPrinter_37 rfl rfl ?_
      refine zy_getR (q' := a + 3) fl_RX0_22 rfl dX0_addPrinter_38 rfl ?_
      refine zx_aloadN dX0_addPrinter_41 rfl rfl ?_
      refine zy_getI (v := σ.1 a 0) fl_RX0_9 rfl dX0_addPrinter_42 ((zput_k _ _ _ _ _ (by omega)).trans (zput_k _ _ _ _ _ (by omega))) ?_
      refine zx_iloadN dX0_addPrinter_45 rfl rfl ?_
      refine zy_iast (i := (σ.1 a 0).toNat) rfl (by decide) (by decide) dX0_addPrinter_46 (by omega) (by omega) rfl ?_
      refine zx_aloadN dX0_addPrinter_47 rfl rfl ?_
      refine zy_getR (q' := a + 4) fl_RX0_25 rfl dX0_addPrinter_48 rfl ?_
      refine zx_aloadN dX0_addPrinter_51 rfl rfl ?_
      refine zy_getI (v := σ.1 a 0) fl_RX0_9 rfl dX0_addPrinter_52 ((zput_k _ _ _ _ _ (by omega)).trans ((zput_k _ _ _ _ _ (by omega)).trans (zput_k _ _ _ _ _ (by omega)))) ?_
      refine zx_iload dX0_addPrinter_55 rfl ?_
      refine zy_iast (i := (σ.1 a 0).toNat) rfl (by decide) (by decide) dX0_addPrinter_57 (by omega) (by omega) rfl ?_
      refine zx_aloadN dX0_addPrinter_58 rfl rfl ?_
      refine zy_getR (q' := a + 5) fl_RX0_28 rfl dX0_addPrinter_59 rfl ?_
      refine zx_aloadN dX0_addPrinter_62 rfl rfl ?_
      refine zy_getI (v := σ.1 a 0) fl_RX0_9 rfl dX0_addPrinter_63 ((zput_k _ _ _ _ _ (by omega)).trans ((zput_k _ _ _ _ _ (by omega)).trans ((zput_k _ _ _ _ _ (by omega)).trans (zput_k _ _ _ _ _ (by omega))))) ?_
      refine zx_iconst dX0_addPrinter_66 ?_
      refine zy_iast (i := (σ.1 a 0).toNat) rfl (by decide) (by decide) dX0_addPrinter_67 (by omega) (by omega) rfl ?_
      refine zx_aloadN dX0_addPrinter_68 rfl rfl ?_
      refine zy_getR (q' := a + 6) fl_RX0_31 rfl dX0_addPrinter_69 rfl ?_
      refine zx_aloadN dX0_addPrinter_72 rfl rfl ?_
      refine zy_getI (v := σ.1 a 0) fl_RX0_9 rfl dX0_addPrinter_73 ((zput_k _ _ _ _ _ (by omega)).trans ((zput_k _ _ _ _ _ (by omega)).trans ((zput_k _ _ _ _ _ (by omega)).trans ((zput_k _ _ _ _ _ (by omega)).trans (zput_k _ _ _ _ _ (by omega)))))) ?_
      refine zx_iconst dX0_addPrinter_76 ?_
      refine zy_iast (i := (σ.1 a 0).toNat) rfl (by decide) (by decide) dX0_addPrinter_77 (by omega) (by omega) rfl ?_
      refine zx_aloadN dX0_addPrinter_78 rfl rfl ?_
      refine zx_dup rfl dX0_addPrinter_79 ?_
      refine zy_getI (v := σ.1 a 0) fl_RX0_9 rfl dX0_addPrinter_80 ((zput_k _ _ _ _ _ (by omega)).trans ((zput_k _ _ _ _ _ (by omega)).trans ((zput_k _ _ _ _ _ (by omega)).trans ((zput_k _ _ _ _ _ (by omega)).trans ((zput_k _ _ _ _ _ (by omega)).trans (zput_k _ _ _ _ _ (by omega))))))) ?_
      refine zx_iconst dX0_addPrinter_83 ?_
      refine zx_iadd dX0_addPrinter_84 ?_
      refine zx_putI fl_RX0_9 rfl (Or.inl fp_0_0) dX0_addPrinter_85 ?_
      refine zx_vret rfl dX0_addPrinter_88 ?_
      rw [hQ]
      exact ⟨rfl, by first | rfl | (exfalso; omega)⟩
    · exfalso; omega
set_option maxRecDepth 20000 in
set_option maxHeartbeats 2000000 in
theorem sX0_addWatermark {l : Launch} {w : zW} (hfl : l.stackTraces = false) {σ : zS} {a : Nat} {x y : Int} (hz : zOK σ) (h1 : zr x) (h2 : zr y) (hP : 0 ≤ σ.1 a 7 ∧ σ.1 a 7 < 8) : Sp l w mX0_addWatermark 0 0 [zf 0 a, zi x, zi y] σ (zrtv (zput (zput (zput σ (a + 7) ((σ.1 a 7).toNat) x) (a + 8) ((σ.1 a 7).toNat) y) a 7 (σ.1 a 7 + 1))) := by
  obtain ⟨Q, hQ⟩ : ∃ Q : zQ, Q = (zrtv (zput (zput (zput σ (a + 7) ((σ.1 a 7).toNat) x) (a + 8) ((σ.1 a 7).toNat) y) a 7 (σ.1 a 7 + 1))) := ⟨_, rfl⟩
  rw [← hQ]
  refine zx_enter hfl (by decide) rfl 0 rfl ?_
  show zX l w mX0_addWatermark (zMQ w 0 0 Q) 0 [zf 0 a, zi x, zi y] [] 0 σ
  refine zx_aloadN dX0_addWatermark_0 rfl rfl ?_
  refine zy_getI fl_RX0_34 rfl dX0_addWatermark_1 rfl ?_
  refine zx_if_lt (tgt := 16) (by first | exact hz _ _ | assumption | exact zr_b _ | exact zcmp_r _ _ | (unfold zr at *; omega)) dX0_addWatermark_4 (by decide) (fun h4 => ?_) (fun h4 => ?_)
  · exfalso; omega
  · refine zx_aloadN dX0_addWatermark_7 rfl rfl ?_
    refine zy_getI fl_RX0_34 rfl dX0_addWatermark_8 rfl ?_
    refine zx_bipush dX0_addWatermark_11 rfl ?_
    refine zx_icmp_lt (tgt := 17) (by first | exact hz _ _ | assumption | exact zr_b _ | exact zcmp_r _ _ | (unfold zr at *; omega)) (by first | exact hz _ _ | assumption | exact zr_b _ | exact zcmp_r _ _ | (unfold zr at *; omega)) dX0_addWatermark_13 (by decide) (fun h13 => ?_) (fun h13 => ?_)
    · refine zx_aloadN dX0_addWatermark_17 rfl rfl ?_
      refine zy_getR (q' := a + 7) fl_RX0_37 rfl dX0_addWatermark_18 rfl ?_
      refine zx_aloadN dX0_addWatermark_21 rfl rfl ?_
      refine zy_getI fl_RX0_34 rfl dX0_addWatermark_22 rfl ?_
      refine zx_iloadN dX0_addWatermark_25 rfl rfl ?_
      refine zy_iast (i := (σ.1 a 7).toNat) rfl (by decide) (by decide) dX0_addWatermark_26 (by omega) (by omega) rfl ?_
      refine zx_aloadN dX0_addWatermark_27 rfl rfl ?_
      refine zy_getR (q' := a + 8) fl_RX0_40 rfl dX0_addWatermark_28 rfl ?_
      refine zx_aloadN dX0_addWatermark_31 rfl rfl ?_
      refine zy_getI (v := σ.1 a 7) fl_RX0_34 rfl dX0_addWatermark_32 (zput_k _ _ _ _ _ (by omega)) ?_
      refine zx_iloadN dX0_addWatermark_35 rfl rfl ?_
      refine zy_iast (i := (σ.1 a 7).toNat) rfl (by decide) (by decide) dX0_addWatermark_36 (by omega) (by omega) rfl ?_
      refine zx_aloadN dX0_addWatermark_37 rfl rfl ?_
      refine zx_dup rfl dX0_addWatermark_38 ?_
      refine zy_getI (v := σ.1 a 7) fl_RX0_34 rfl dX0_addWatermark_39 ((zput_k _ _ _ _ _ (by omega)).trans (zput_k _ _ _ _ _ (by omega))) ?_
      refine zx_iconst dX0_addWatermark_42 ?_
      refine zx_iadd dX0_addWatermark_43 ?_
      refine zx_putI fl_RX0_34 rfl (Or.inl fp_0_7) dX0_addWatermark_44 ?_
      refine zx_vret rfl dX0_addWatermark_47 ?_
      rw [hQ]
      exact ⟨rfl, by first | rfl | (exfalso; omega)⟩
    · exfalso; omega
set_option maxRecDepth 20000 in
set_option maxHeartbeats 2000000 in
theorem sX0_addEdition {l : Launch} {w : zW} (hfl : l.stackTraces = false) {σ : zS} {a : Nat} {x y : Int} (hz : zOK σ) (h1 : zr x) (h2 : zr y) (hP : 0 ≤ σ.1 a 10 ∧ σ.1 a 10 < 12) : Sp l w mX0_addEdition 0 0 [zf 0 a, zi x, zi y] σ (zrtv (zput (zput (zput σ (a + 9) ((σ.1 a 10).toNat) x) (a + 10) ((σ.1 a 10).toNat) y) a 10 (σ.1 a 10 + 1))) := by
  obtain ⟨Q, hQ⟩ : ∃ Q : zQ, Q = (zrtv (zput (zput (zput σ (a + 9) ((σ.1 a 10).toNat) x) (a + 10) ((σ.1 a 10).toNat) y) a 10 (σ.1 a 10 + 1))) := ⟨_, rfl⟩
  rw [← hQ]
  refine zx_enter hfl (by decide) rfl 0 rfl ?_
  show zX l w mX0_addEdition (zMQ w 0 0 Q) 0 [zf 0 a, zi x, zi y] [] 0 σ
  refine zx_aloadN dX0_addEdition_0 rfl rfl ?_
  refine zy_getI fl_RX0_43 rfl dX0_addEdition_1 rfl ?_
  refine zx_if_lt (tgt := 16) (by first | exact hz _ _ | assumption | exact zr_b _ | exact zcmp_r _ _ | (unfold zr at *; omega)) dX0_addEdition_4 (by decide) (fun h4 => ?_) (fun h4 => ?_)
  · exfalso; omega
  · refine zx_aloadN dX0_addEdition_7 rfl rfl ?_
    refine zy_getI fl_RX0_43 rfl dX0_addEdition_8 rfl ?_
    refine zx_bipush dX0_addEdition_11 rfl ?_
    refine zx_icmp_lt (tgt := 17) (by first | exact hz _ _ | assumption | exact zr_b _ | exact zcmp_r _ _ | (unfold zr at *; omega)) (by first | exact hz _ _ | assumption | exact zr_b _ | exact zcmp_r _ _ | (unfold zr at *; omega)) dX0_addEdition_13 (by decide) (fun h13 => ?_) (fun h13 => ?_)
    · refine zx_aloadN dX0_addEdition_17 rfl rfl ?_
      refine zy_getR (q' := a + 9) fl_RX0_46 rfl dX0_addEdition_18 rfl ?_
      refine zx_aloadN dX0_addEdition_21 rfl rfl ?_
      refine zy_getI fl_RX0_43 rfl dX0_addEdition_22 rfl ?_
      refine zx_iloadN dX0_addEdition_25 rfl rfl ?_
      refine zy_iast (i := (σ.1 a 10).toNat) rfl (by decide) (by decide) dX0_addEdition_26 (by omega) (by omega) rfl ?_
      refine zx_aloadN dX0_addEdition_27 rfl rfl ?_
      refine zy_getR (q' := a + 10) fl_RX0_49 rfl dX0_addEdition_28 rfl ?_
      refine zx_aloadN dX0_addEdition_31 rfl rfl ?_
      refine zy_getI (v := σ.1 a 10) fl_RX0_43 rfl dX0_addEdition_32 (zput_k _ _ _ _ _ (by omega)) ?_
      refine zx_iloadN dX0_addEdition_35 rfl rfl ?_
      refine zy_iast (i := (σ.1 a 10).toNat) rfl (by decide) (by decide) dX0_addEdition_36 (by omega) (by omega) rfl ?_
      refine zx_aloadN dX0_addEdition_37 rfl rfl ?_
      refine zx_dup rfl dX0_addEdition_38 ?_
      refine zy_getI (v := σ.1 a 10) fl_RX0_43 rfl dX0_addEdition_39 ((zput_k _ _ _ _ _ (by omega)).trans (zput_k _ _ _ _ _ (by omega))) ?_
      refine zx_iconst dX0_addEdition_42 ?_
      refine zx_iadd dX0_addEdition_43 ?_
      refine zx_putI fl_RX0_43 rfl (Or.inl fp_0_10) dX0_addEdition_44 ?_
      refine zx_vret rfl dX0_addEdition_47 ?_
      rw [hQ]
      exact ⟨rfl, by first | rfl | (exfalso; omega)⟩
    · exfalso; omega
set_option maxRecDepth 20000 in
set_option maxHeartbeats 2000000 in
theorem sX0_clear {l : Launch} {w : zW} (hfl : l.stackTraces = false) {σ : zS} {a : Nat} (hz : zOK σ)  : Sp l w mX0_clear 0 0 [zf 0 a] σ (zrtv (zput (zput (zput σ a 0 0) a 7 0) a 10 0)) := by
  obtain ⟨Q, hQ⟩ : ∃ Q : zQ, Q = (zrtv (zput (zput (zput σ a 0 0) a 7 0) a 10 0)) := ⟨_, rfl⟩
  rw [← hQ]
  refine zx_enter hfl (by decide) rfl 0 rfl ?_
  show zX l w mX0_clear (zMQ w 0 0 Q) 0 [zf 0 a] [] 0 σ
  refine zx_aloadN dX0_clear_0 rfl rfl ?_
  refine zx_iconst dX0_clear_1 ?_
  refine zx_putI fl_RX0_9 rfl (Or.inl fp_0_0) dX0_clear_2 ?_
  refine zx_aloadN dX0_clear_5 rfl rfl ?_
  refine zx_iconst dX0_clear_6 ?_
  refine zx_putI fl_RX0_34 rfl (Or.inl fp_0_7) dX0_clear_7 ?_
  refine zx_aloadN dX0_clear_10 rfl rfl ?_
  refine zx_iconst dX0_clear_11 ?_
  refine zx_putI fl_RX0_43 rfl (Or.inl fp_0_10) dX0_clear_12 ?_
  refine zx_vret rfl dX0_clear_15 ?_
  rw [hQ]
  exact ⟨rfl, by first | rfl | (exfalso; omega)⟩
set_option maxRecDepth 20000 in
set_option maxHeartbeats 2000000 in
theorem sX1_clear {l : Launch} {w : zW} (hfl : l.stackTraces = false) {σ : zS} {k : Nat} (hz : zOK σ)  : Sp l w mX1_clear 1 0 [zf 1 k] σ (zrtv (zput (zput (zput (zput σ (k + 1) 0 0) (k + 1) 7 0) (k + 1) 10 0) (k + 12) 0 0)) := by
  obtain ⟨Q, hQ⟩ : ∃ Q : zQ, Q = (zrtv (zput (zput (zput (zput σ (k + 1) 0 0) (k + 1) 7 0) (k + 1) 10 0) (k + 12) 0 0)) := ⟨_, rfl⟩
  rw [← hQ]
  refine zx_enter hfl (by decide) rfl 0 rfl ?_
  show zX l w mX1_clear (zMQ w 1 0 Q) 0 [zf 1 k] [] 0 σ
  refine zx_aloadN dX1_clear_0 rfl rfl ?_
  refine zy_getR (q' := k + 1) fl_RX1_12 rfl dX1_clear_1 rfl ?_
  refine zy_cvv [] (sX0_clear  hfl hz ) dX1_clear_4 (by decide) rfl cw_RX1_25 okX0_clear rfl (Nat.le_of_ble_eq_true rfl) ⟨Nat.le_of_ble_eq_true rfl, Nat.le_of_ble_eq_true rfl, Nat.le_of_ble_eq_true rfl, Nat.le_of_ble_eq_true rfl⟩ ?_
  refine zx_aloadN dX1_clear_7 rfl rfl ?_
  refine zy_getR (q' := k + 12) fl_RX1_21 rfl dX1_clear_8 rfl ?_
  refine zx_iconst dX1_clear_11 ?_
  refine zx_putI fl_RX1_28 rfl (Or.inl fp_2_0) dX1_clear_12 ?_
  refine zx_vret rfl dX1_clear_15 ?_
  rw [hQ]
  exact ⟨rfl, by first | rfl | (exfalso; omega)⟩
set_option maxRecDepth 20000 in
set_option maxHeartbeats 2000000 in
theorem sX1_drop_x {l : Launch} {w : zW} (hfl : l.stackTraces = false) {σ : zS} {k : Nat} {x : Int} (hz : zOK σ) (hx : zr x) (hK : 0 ≤ σ.1 (k + 12) 0 ∧ σ.1 (k + 12) 0 ≤ 40) (hw : ¬ (0 ≤ x ∧ x < σ.1 (k + 12) 0)) : Sp l w mX1_drop 1 0 [zf 1 k, zi x] σ (zret (zi 1) σ) := by
  obtain ⟨Q, hQ⟩ : ∃ Q : zQ, Q = (zret (zi 1) σ) := ⟨_, rfl⟩
  rw [← hQ]
  refine zx_enter hfl (by decide) rfl 0 rfl ?_
  show zX l w mX1_drop (zMQ w 1 0 Q) 0 [zf 1 k, zi x] [] 0 σ
  refine zx_aloadN dX1_drop_0 rfl rfl ?_
  refine zy_getR (q' := k + 12) fl_RX1_21 rfl dX1_drop_1 rfl ?_
  refine zx_iloadN dX1_drop_4 rfl rfl ?_
  refine zy_cv [zi x] (sX2_has  hfl hz (by first | exact hz _ _ | assumption | exact zr_b _ | exact zcmp_r _ _ | (unfold zr at *; omega))) dX1_drop_5 (by decide) rfl cw_RX1_62 okX2_has rfl (Nat.le_of_ble_eq_true rfl) ⟨Nat.le_of_ble_eq_true rfl, Nat.le_of_ble_eq_true rfl, Nat.le_of_ble_eq_true rfl, Nat.le_of_ble_eq_true rfl⟩ ?_
  refine zx_if_ne (tgt := 13) (by first | exact hz _ _ | assumption | exact zr_b _ | exact zcmp_r _ _ | (unfold zr at *; omega)) dX1_drop_8 (by decide) (fun h8 => ?_) (fun h8 => ?_)
  · have h8 := zb_n.mp h8
    refine zx_aloadN dX1_drop_13 rfl rfl ?_
    refine zy_getR (q' := k + 12) fl_RX1_21 rfl dX1_drop_14 rfl ?_
    refine zy_getR (q' := k + 18) fl_RX1_66 rfl dX1_drop_17 rfl ?_
    refine zx_iloadN dX1_drop_20 rfl rfl ?_
    refine zy_zald (v := σ.1 (k + 18) x.toNat) rfl (by decide) (by decide) dX1_drop_21 (by omega) (by omega) rfl ?_
    refine zx_if_eq (tgt := 27) (by first | exact hz _ _ | assumption | exact zr_b _ | exact zcmp_r _ _ | (unfold zr at *; omega)) dX1_drop_22 (by decide) (fun h22 => ?_) (fun h22 => ?_)
    · refine zx_aloadN dX1_drop_27 rfl rfl ?_
      refine zy_getR (q' := k + 12) fl_RX1_21 rfl dX1_drop_28 rfl ?_
      refine zy_getR (q' := k + 18) fl_RX1_66 rfl dX1_drop_31 rfl ?_
      refine zx_iloadN dX1_drop_34 rfl rfl ?_
      refine zx_iconst dX1_drop_35 ?_
      refine zy_zast (i := x.toNat) rfl (by decide) (by decide) dX1_drop_36 (Or.inr rfl) (by omega) (by omega) rfl ?_
      refine zx_iconst dX1_drop_37 ?_
      refine zx_iret rfl rfl dX1_drop_38 ?_
      rw [hQ]
      refine ⟨congrArg (fun z : Int => (Sum.inl (some (zi z)) : Option zV ⊕ String)) ?_, by first | rfl | (exfalso; omega)⟩
      first | rfl | omega | (split <;> first | rfl | omega)
    · refine zx_iconst dX1_drop_25 ?_
      refine zx_iret rfl rfl dX1_drop_26 ?_
      rw [hQ]
      refine ⟨congrArg (fun z : Int => (Sum.inl (some (zi z)) : Option zV ⊕ String)) ?_, by first | rfl | (exfalso; omega)⟩
      first | rfl | omega | (split <;> first | rfl | omega)
  · have h8 := zb_0.mp h8
    refine zx_iconst dX1_drop_11 ?_
    refine zx_iret rfl rfl dX1_drop_12 ?_
    rw [hQ]
    refine ⟨congrArg (fun z : Int => (Sum.inl (some (zi z)) : Option zV ⊕ String)) ?_, by first | rfl | (exfalso; omega)⟩
    first | rfl | omega | (split <;> first | rfl | omega)
set_option maxRecDepth 20000 in
set_option maxHeartbeats 2000000 in
theorem sX1_drop_s {l : Launch} {w : zW} (hfl : l.stackTraces = false) {σ : zS} {k : Nat} {x : Int} (hz : zOK σ) (hx : zr x) (hK : 0 ≤ σ.1 (k + 12) 0 ∧ σ.1 (k + 12) 0 ≤ 40) (hw : 0 ≤ x ∧ x < σ.1 (k + 12) 0) (hw2 : ¬ σ.1 (k + 18) x.toNat = 0) : Sp l w mX1_drop 1 0 [zf 1 k, zi x] σ (zret (zi 3) σ) := by
  obtain ⟨Q, hQ⟩ : ∃ Q : zQ, Q = (zret (zi 3) σ) := ⟨_, rfl⟩
  rw [← hQ]
  refine zx_enter hfl (by decide) rfl 0 rfl ?_
  show zX l w mX1_drop (zMQ w 1 0 Q) 0 [zf 1 k, zi x] [] 0 σ
  refine zx_aloadN dX1_drop_0 rfl rfl ?_
  refine zy_getR (q' := k + 12) fl_RX1_21 rfl dX1_drop_1 rfl ?_
  refine zx_iloadN dX1_drop_4 rfl rfl ?_
  refine zy_cv [zi x] (sX2_has  hfl hz (by first | exact hz _ _ | assumption | exact zr_b _ | exact zcmp_r _ _ | (unfold zr at *; omega))) dX1_drop_5 (by decide) rfl cw_RX1_62 okX2_has rfl (Nat.le_of_ble_eq_true rfl) ⟨Nat.le_of_ble_eq_true rfl, Nat.le_of_ble_eq_true rfl, Nat.le_of_ble_eq_true rfl, Nat.le_of_ble_eq_true rfl⟩ ?_
  refine zx_if_ne (tgt := 13) (by first | exact hz _ _ | assumption | exact zr_b _ | exact zcmp_r _ _ | (unfold zr at *; omega)) dX1_drop_8 (by decide) (fun h8 => ?_) (fun h8 => ?_)
  · have h8 := zb_n.mp h8
    refine zx_aloadN dX1_drop_13 rfl rfl ?_
    refine zy_getR (q' := k + 12) fl_RX1_21 rfl dX1_drop_14 rfl ?_
    refine zy_getR (q' := k + 18) fl_RX1_66 rfl dX1_drop_17 rfl ?_
    refine zx_iloadN dX1_drop_20 rfl rfl ?_
    refine zy_zald (v := σ.1 (k + 18) x.toNat) rfl (by decide) (by decide) dX1_drop_21 (by omega) (by omega) rfl ?_
    refine zx_if_eq (tgt := 27) (by first | exact hz _ _ | assumption | exact zr_b _ | exact zcmp_r _ _ | (unfold zr at *; omega)) dX1_drop_22 (by decide) (fun h22 => ?_) (fun h22 => ?_)
    · refine zx_aloadN dX1_drop_27 rfl rfl ?_
      refine zy_getR (q' := k + 12) fl_RX1_21 rfl dX1_drop_28 rfl ?_
      refine zy_getR (q' := k + 18) fl_RX1_66 rfl dX1_drop_31 rfl ?_
      refine zx_iloadN dX1_drop_34 rfl rfl ?_
      refine zx_iconst dX1_drop_35 ?_
      refine zy_zast (i := x.toNat) rfl (by decide) (by decide) dX1_drop_36 (Or.inr rfl) (by omega) (by omega) rfl ?_
      refine zx_iconst dX1_drop_37 ?_
      refine zx_iret rfl rfl dX1_drop_38 ?_
      rw [hQ]
      refine ⟨congrArg (fun z : Int => (Sum.inl (some (zi z)) : Option zV ⊕ String)) ?_, by first | rfl | (exfalso; omega)⟩
      first | rfl | omega | (split <;> first | rfl | omega)
    · refine zx_iconst dX1_drop_25 ?_
      refine zx_iret rfl rfl dX1_drop_26 ?_
      rw [hQ]
      refine ⟨congrArg (fun z : Int => (Sum.inl (some (zi z)) : Option zV ⊕ String)) ?_, by first | rfl | (exfalso; omega)⟩
      first | rfl | omega | (split <;> first | rfl | omega)
  · have h8 := zb_0.mp h8
    refine zx_iconst dX1_drop_11 ?_
    refine zx_iret rfl rfl dX1_drop_12 ?_
    rw [hQ]
    refine ⟨congrArg (fun z : Int => (Sum.inl (some (zi z)) : Option zV ⊕ String)) ?_, by first | rfl | (exfalso; omega)⟩
    first | rfl | omega | (split <;> first | rfl | omega)
set_option maxRecDepth 20000 in
set_option maxHeartbeats 2000000 in
theorem sX1_drop {l : Launch} {w : zW} (hfl : l.stackTraces = false) {σ : zS} {k : Nat} {x : Int} (hz : zOK σ) (hx : zr x) (hK : 0 ≤ σ.1 (k + 12) 0 ∧ σ.1 (k + 12) 0 ≤ 40) (hw : 0 ≤ x ∧ x < σ.1 (k + 12) 0) (hw2 : ¬ (¬ σ.1 (k + 18) x.toNat = 0)) : Sp l w mX1_drop 1 0 [zf 1 k, zi x] σ (zret (zi 0) (zput σ (k + 18) x.toNat 1)) := by
  obtain ⟨Q, hQ⟩ : ∃ Q : zQ, Q = (zret (zi 0) (zput σ (k + 18) x.toNat 1)) := ⟨_, rfl⟩
  rw [← hQ]
  refine zx_enter hfl (by decide) rfl 0 rfl ?_
  show zX l w mX1_drop (zMQ w 1 0 Q) 0 [zf 1 k, zi x] [] 0 σ
  refine zx_aloadN dX1_drop_0 rfl rfl ?_
  refine zy_getR (q' := k + 12) fl_RX1_21 rfl dX1_drop_1 rfl ?_
  refine zx_iloadN dX1_drop_4 rfl rfl ?_
  refine zy_cv [zi x] (sX2_has  hfl hz (by first | exact hz _ _ | assumption | exact zr_b _ | exact zcmp_r _ _ | (unfold zr at *; omega))) dX1_drop_5 (by decide) rfl cw_RX1_62 okX2_has rfl (Nat.le_of_ble_eq_true rfl) ⟨Nat.le_of_ble_eq_true rfl, Nat.le_of_ble_eq_true rfl, Nat.le_of_ble_eq_true rfl, Nat.le_of_ble_eq_true rfl⟩ ?_
  refine zx_if_ne (tgt := 13) (by first | exact hz _ _ | assumption | exact zr_b _ | exact zcmp_r _ _ | (unfold zr at *; omega)) dX1_drop_8 (by decide) (fun h8 => ?_) (fun h8 => ?_)
  · have h8 := zb_n.mp h8
    refine zx_aloadN dX1_drop_13 rfl rfl ?_
    refine zy_getR (q' := k + 12) fl_RX1_21 rfl dX1_drop_14 rfl ?_
    refine zy_getR (q' := k + 18) fl_RX1_66 rfl dX1_drop_17 rfl ?_
    refine zx_iloadN dX1_drop_20 rfl rfl ?_
    refine zy_zald (v := σ.1 (k + 18) x.toNat) rfl (by decide) (by decide) dX1_drop_21 (by omega) (by omega) rfl ?_
    refine zx_if_eq (tgt := 27) (by first | exact hz _ _ | assumption | exact zr_b _ | exact zcmp_r _ _ | (unfold zr at *; omega)) dX1_drop_22 (by decide) (fun h22 => ?_) (fun h22 => ?_)
    · refine zx_aloadN dX1_drop_27 rfl rfl ?_
      refine zy_getR (q' := k + 12) fl_RX1_21 rfl dX1_drop_28 rfl ?_
      refine zy_getR (q' := k + 18) fl_RX1_66 rfl dX1_drop_31 rfl ?_
      refine zx_iloadN dX1_drop_34 rfl rfl ?_
      refine zx_iconst dX1_drop_35 ?_
      refine zy_zast (i := x.toNat) rfl (by decide) (by decide) dX1_drop_36 (Or.inr rfl) (by omega) (by omega) rfl ?_
      refine zx_iconst dX1_drop_37 ?_
      refine zx_iret rfl rfl dX1_drop_38 ?_
      rw [hQ]
      refine ⟨congrArg (fun z : Int => (Sum.inl (some (zi z)) : Option zV ⊕ String)) ?_, by first | rfl | (exfalso; omega)⟩
      first | rfl | omega | (split <;> first | rfl | omega)
    · refine zx_iconst dX1_drop_25 ?_
      refine zx_iret rfl rfl dX1_drop_26 ?_
      rw [hQ]
      refine ⟨congrArg (fun z : Int => (Sum.inl (some (zi z)) : Option zV ⊕ String)) ?_, by first | rfl | (exfalso; omega)⟩
      first | rfl | omega | (split <;> first | rfl | omega)
  · have h8 := zb_0.mp h8
    refine zx_iconst dX1_drop_11 ?_
    refine zx_iret rfl rfl dX1_drop_12 ?_
    rw [hQ]
    refine ⟨congrArg (fun z : Int => (Sum.inl (some (zi z)) : Option zV ⊕ String)) ?_, by first | rfl | (exfalso; omega)⟩
    first | rfl | omega | (split <;> first | rfl | omega)
set_option maxRecDepth 20000 in
set_option maxHeartbeats 2000000 in
theorem sX1_pickUp_x {l : Launch} {w : zW} (hfl : l.stackTraces = false) {σ : zS} {k : Nat} {x : Int} (hz : zOK σ) (hx : zr x) (hK : 0 ≤ σ.1 (k + 12) 0 ∧ σ.1 (k + 12) 0 ≤ 40) (hw : ¬ (0 ≤ x ∧ x < σ.1 (k + 12) 0)) : Sp l w mX1_pickUp 1 0 [zf 1 k, zi x] σ (zret (zi 1) σ) := by
  obtain ⟨Q, hQ⟩ : ∃ Q : zQ, Q = (zret (zi 1) σ) := ⟨_, rfl⟩
  rw [← hQ]
  refine zx_enter hfl (by decide) rfl 0 rfl ?_
  show zX l w mX1_pickUp (zMQ w 1 0 Q) 0 [zf 1 k, zi x] [] 0 σ
  refine zx_aloadN dX1_pickUp_0 rfl rfl ?_
  refine zy_getR (q' := k + 12) fl_RX1_21 rfl dX1_pickUp_1 rfl ?_
  refine zx_iloadN dX1_pickUp_4 rfl rfl ?_
  refine zy_cv [zi x] (sX2_has  hfl hz (by first | exact hz _ _ | assumption | exact zr_b _ | exact zcmp_r _ _ | (unfold zr at *; omega))) dX1_pickUp_5 (by decide) rfl cw_RX1_62 okX2_has rfl (Nat.le_of_ble_eq_true rfl) ⟨Nat.le_of_ble_eq_true rfl, Nat.le_of_ble_eq_true rfl, Nat.le_of_ble_eq_true rfl, Nat.le_of_ble_eq_true rfl⟩ ?_
  refine zx_if_ne (tgt := 13) (by first | exact hz _ _ | assumption | exact zr_b _ | exact zcmp_r _ _ | (unfold zr at *; omega)) dX1_pickUp_8 (by decide) (fun h8 => ?_) (fun h8 => ?_)
  · have h8 := zb_n.mp h8
    refine zx_aloadN dX1_pickUp_13 rfl rfl ?_
    refine zy_getR (q' := k + 12) fl_RX1_21 rfl dX1_pickUp_14 rfl ?_
    refine zy_getR (q' := k + 18) fl_RX1_66 rfl dX1_pickUp_17 rfl ?_
    refine zx_iloadN dX1_pickUp_20 rfl rfl ?_
    refine zy_zald (v := σ.1 (k + 18) x.toNat) rfl (by decide) (by decide) dX1_pickUp_21 (by omega) (by omega) rfl ?_
    refine zx_if_ne (tgt := 27) (by first | exact hz _ _ | assumption | exact zr_b _ | exact zcmp_r _ _ | (unfold zr at *; omega)) dX1_pickUp_22 (by decide) (fun h22 => ?_) (fun h22 => ?_)
    · refine zx_aloadN dX1_pickUp_27 rfl rfl ?_
      refine zy_getR (q' := k + 12) fl_RX1_21 rfl dX1_pickUp_28 rfl ?_
      refine zy_getR (q' := k + 18) fl_RX1_66 rfl dX1_pickUp_31 rfl ?_
      refine zx_iloadN dX1_pickUp_34 rfl rfl ?_
      refine zx_iconst dX1_pickUp_35 ?_
      refine zy_zast (i := x.toNat) rfl (by decide) (by decide) dX1_pickUp_36 (Or.inl rfl) (by omega) (by omega) rfl ?_
      refine zx_iconst dX1_pickUp_37 ?_
      refine zx_iret rfl rfl dX1_pickUp_38 ?_
      rw [hQ]
      refine ⟨congrArg (fun z : Int => (Sum.inl (some (zi z)) : Option zV ⊕ String)) ?_, by first | rfl | (exfalso; omega)⟩
      first | rfl | omega | (split <;> first | rfl | omega)
    · refine zx_iconst dX1_pickUp_25 ?_
      refine zx_iret rfl rfl dX1_pickUp_26 ?_
      rw [hQ]
      refine ⟨congrArg (fun z : Int => (Sum.inl (some (zi z)) : Option zV ⊕ String)) ?_, by first | rfl | (exfalso; omega)⟩
      first | rfl | omega | (split <;> first | rfl | omega)
  · have h8 := zb_0.mp h8
    refine zx_iconst dX1_pickUp_11 ?_
    refine zx_iret rfl rfl dX1_pickUp_12 ?_
    rw [hQ]
    refine ⟨congrArg (fun z : Int => (Sum.inl (some (zi z)) : Option zV ⊕ String)) ?_, by first | rfl | (exfalso; omega)⟩
    first | rfl | omega | (split <;> first | rfl | omega)
set_option maxRecDepth 20000 in
set_option maxHeartbeats 2000000 in
theorem sX1_pickUp_s {l : Launch} {w : zW} (hfl : l.stackTraces = false) {σ : zS} {k : Nat} {x : Int} (hz : zOK σ) (hx : zr x) (hK : 0 ≤ σ.1 (k + 12) 0 ∧ σ.1 (k + 12) 0 ≤ 40) (hw : 0 ≤ x ∧ x < σ.1 (k + 12) 0) (hw2 : σ.1 (k + 18) x.toNat = 0) : Sp l w mX1_pickUp 1 0 [zf 1 k, zi x] σ (zret (zi 3) σ) := by
  obtain ⟨Q, hQ⟩ : ∃ Q : zQ, Q = (zret (zi 3) σ) := ⟨_, rfl⟩
  rw [← hQ]
  refine zx_enter hfl (by decide) rfl 0 rfl ?_
  show zX l w mX1_pickUp (zMQ w 1 0 Q) 0 [zf 1 k, zi x] [] 0 σ
  refine zx_aloadN dX1_pickUp_0 rfl rfl ?_
  refine zy_getR (q' := k + 12) fl_RX1_21 rfl dX1_pickUp_1 rfl ?_
  refine zx_iloadN dX1_pickUp_4 rfl rfl ?_
  refine zy_cv [zi x] (sX2_has  hfl hz (by first | exact hz _ _ | assumption | exact zr_b _ | exact zcmp_r _ _ | (unfold zr at *; omega))) dX1_pickUp_5 (by decide) rfl cw_RX1_62 okX2_has rfl (Nat.le_of_ble_eq_true rfl) ⟨Nat.le_of_ble_eq_true rfl, Nat.le_of_ble_eq_true rfl, Nat.le_of_ble_eq_true rfl, Nat.le_of_ble_eq_true rfl⟩ ?_
  refine zx_if_ne (tgt := 13) (by first | exact hz _ _ | assumption | exact zr_b _ | exact zcmp_r _ _ | (unfold zr at *; omega)) dX1_pickUp_8 (by decide) (fun h8 => ?_) (fun h8 => ?_)
  · have h8 := zb_n.mp h8
    refine zx_aloadN dX1_pickUp_13 rfl rfl ?_
    refine zy_getR (q' := k + 12) fl_RX1_21 rfl dX1_pickUp_14 rfl ?_
    refine zy_getR (q' := k + 18) fl_RX1_66 rfl dX1_pickUp_17 rfl ?_
    refine zx_iloadN dX1_pickUp_20 rfl rfl ?_
    refine zy_zald (v := σ.1 (k + 18) x.toNat) rfl (by decide) (by decide) dX1_pickUp_21 (by omega) (by omega) rfl ?_
    refine zx_if_ne (tgt := 27) (by first | exact hz _ _ | assumption | exact zr_b _ | exact zcmp_r _ _ | (unfold zr at *; omega)) dX1_pickUp_22 (by decide) (fun h22 => ?_) (fun h22 => ?_)
    · refine zx_aloadN dX1_pickUp_27 rfl rfl ?_
      refine zy_getR (q' := k + 12) fl_RX1_21 rfl dX1_pickUp_28 rfl ?_
      refine zy_getR (q' := k + 18) fl_RX1_66 rfl dX1_pickUp_31 rfl ?_
      refine zx_iloadN dX1_pickUp_34 rfl rfl ?_
      refine zx_iconst dX1_pickUp_35 ?_
      refine zy_zast (i := x.toNat) rfl (by decide) (by decide) dX1_pickUp_36 (Or.inl rfl) (by omega) (by omega) rfl ?_
      refine zx_iconst dX1_pickUp_37 ?_
      refine zx_iret rfl rfl dX1_pickUp_38 ?_
      rw [hQ]
      refine ⟨congrArg (fun z : Int => (Sum.inl (some (zi z)) : Option zV ⊕ String)) ?_, by first | rfl | (exfalso; omega)⟩
      first | rfl | omega | (split <;> first | rfl | omega)
    · refine zx_iconst dX1_pickUp_25 ?_
      refine zx_iret rfl rfl dX1_pickUp_26 ?_
      rw [hQ]
      refine ⟨congrArg (fun z : Int => (Sum.inl (some (zi z)) : Option zV ⊕ String)) ?_, by first | rfl | (exfalso; omega)⟩
      first | rfl | omega | (split <;> first | rfl | omega)
  · have h8 := zb_0.mp h8
    refine zx_iconst dX1_pickUp_11 ?_
    refine zx_iret rfl rfl dX1_pickUp_12 ?_
    rw [hQ]
    refine ⟨congrArg (fun z : Int => (Sum.inl (some (zi z)) : Option zV ⊕ String)) ?_, by first | rfl | (exfalso; omega)⟩
    first | rfl | omega | (split <;> first | rfl | omega)
set_option maxRecDepth 20000 in
set_option maxHeartbeats 2000000 in
theorem sX1_pickUp {l : Launch} {w : zW} (hfl : l.stackTraces = false) {σ : zS} {k : Nat} {x : Int} (hz : zOK σ) (hx : zr x) (hK : 0 ≤ σ.1 (k + 12) 0 ∧ σ.1 (k + 12) 0 ≤ 40) (hw : 0 ≤ x ∧ x < σ.1 (k + 12) 0) (hw2 : ¬ (σ.1 (k + 18) x.toNat = 0)) : Sp l w mX1_pickUp 1 0 [zf 1 k, zi x] σ (zret (zi 0) (zput σ (k + 18) x.toNat 0)) := by
  obtain ⟨Q, hQ⟩ : ∃ Q : zQ, Q = (zret (zi 0) (zput σ (k + 18) x.toNat 0)) := ⟨_, rfl⟩
  rw [← hQ]
  refine zx_enter hfl (by decide) rfl 0 rfl ?_
  show zX l w mX1_pickUp (zMQ w 1 0 Q) 0 [zf 1 k, zi x] [] 0 σ
  refine zx_aloadN dX1_pickUp_0 rfl rfl ?_
  refine zy_getR (q' := k + 12) fl_RX1_21 rfl dX1_pickUp_1 rfl ?_
  refine zx_iloadN dX1_pickUp_4 rfl rfl ?_
  refine zy_cv [zi x] (sX2_has  hfl hz (by first | exact hz _ _ | assumption | exact zr_b _ | exact zcmp_r _ _ | (unfold zr at *; omega))) dX1_pickUp_5 (by decide) rfl cw_RX1_62 okX2_has rfl (Nat.le_of_ble_eq_true rfl) ⟨Nat.le_of_ble_eq_true rfl, Nat.le_of_ble_eq_true rfl, Nat.le_of_ble_eq_true rfl, Nat.le_of_ble_eq_true rfl⟩ ?_
  refine zx_if_ne (tgt := 13) (by first | exact hz _ _ | assumption | exact zr_b _ | exact zcmp_r _ _ | (unfold zr at *; omega)) dX1_pickUp_8 (by decide) (fun h8 => ?_) (fun h8 => ?_)
  · have h8 := zb_n.mp h8
    refine zx_aloadN dX1_pickUp_13 rfl rfl ?_
    refine zy_getR (q' := k + 12) fl_RX1_21 rfl dX1_pickUp_14 rfl ?_
    refine zy_getR (q' := k + 18) fl_RX1_66 rfl dX1_pickUp_17 rfl ?_
    refine zx_iloadN dX1_pickUp_20 rfl rfl ?_
    refine zy_zald (v := σ.1 (k + 18) x.toNat) rfl (by decide) (by decide) dX1_pickUp_21 (by omega) (by omega) rfl ?_
    refine zx_if_ne (tgt := 27) (by first | exact hz _ _ | assumption | exact zr_b _ | exact zcmp_r _ _ | (unfold zr at *; omega)) dX1_pickUp_22 (by decide) (fun h22 => ?_) (fun h22 => ?_)
    · refine zx_aloadN dX1_pickUp_27 rfl rfl ?_
      refine zy_getR (q' := k + 12) fl_RX1_21 rfl dX1_pickUp_28 rfl ?_
      refine zy_getR (q' := k + 18) fl_RX1_66 rfl dX1_pickUp_31 rfl ?_
      refine zx_iloadN dX1_pickUp_34 rfl rfl ?_
      refine zx_iconst dX1_pickUp_35 ?_
      refine zy_zast (i := x.toNat) rfl (by decide) (by decide) dX1_pickUp_36 (Or.inl rfl) (by omega) (by omega) rfl ?_
      refine zx_iconst dX1_pickUp_37 ?_
      refine zx_iret rfl rfl dX1_pickUp_38 ?_
      rw [hQ]
      refine ⟨congrArg (fun z : Int => (Sum.inl (some (zi z)) : Option zV ⊕ String)) ?_, by first | rfl | (exfalso; omega)⟩
      first | rfl | omega | (split <;> first | rfl | omega)
    · refine zx_iconst dX1_pickUp_25 ?_
      refine zx_iret rfl rfl dX1_pickUp_26 ?_
      rw [hQ]
      refine ⟨congrArg (fun z : Int => (Sum.inl (some (zi z)) : Option zV ⊕ String)) ?_, by first | rfl | (exfalso; omega)⟩
      first | rfl | omega | (split <;> first | rfl | omega)
  · have h8 := zb_0.mp h8
    refine zx_iconst dX1_pickUp_11 ?_
    refine zx_iret rfl rfl dX1_pickUp_12 ?_
    rw [hQ]
    refine ⟨congrArg (fun z : Int => (Sum.inl (some (zi z)) : Option zV ⊕ String)) ?_, by first | rfl | (exfalso; omega)⟩
    first | rfl | omega | (split <;> first | rfl | omega)
set_option maxRecDepth 20000 in
set_option maxHeartbeats 2000000 in
theorem sX1_changeWeight_x {l : Launch} {w : zW} (hfl : l.stackTraces = false) {σ : zS} {k : Nat} {x y : Int} (hz : zOK σ) (hx : zr x) (hy : zr y) (hK : 0 ≤ σ.1 (k + 12) 0 ∧ σ.1 (k + 12) 0 ≤ 40) (hw : ¬ (0 ≤ x ∧ x < σ.1 (k + 12) 0)) : Sp l w mX1_changeWeight 1 0 [zf 1 k, zi x, zi y] σ (zret (zi 1) σ) := by
  obtain ⟨Q, hQ⟩ : ∃ Q : zQ, Q = (zret (zi 1) σ) := ⟨_, rfl⟩
  rw [← hQ]
  refine zx_enter hfl (by decide) rfl 0 rfl ?_
  show zX l w mX1_changeWeight (zMQ w 1 0 Q) 0 [zf 1 k, zi x, zi y] [] 0 σ
  refine zx_aloadN dX1_changeWeight_0 rfl rfl ?_
  refine zy_getR (q' := k + 12) fl_RX1_21 rfl dX1_changeWeight_1 rfl ?_
  refine zx_iloadN dX1_changeWeight_4 rfl rfl ?_
  refine zy_cv [zi x] (sX2_has  hfl hz (by first | exact hz _ _ | assumption | exact zr_b _ | exact zcmp_r _ _ | (unfold zr at *; omega))) dX1_changeWeight_5 (by decide) rfl cw_RX1_62 okX2_has rfl (Nat.le_of_ble_eq_true rfl) ⟨Nat.le_of_ble_eq_true rfl, Nat.le_of_ble_eq_true rfl, Nat.le_of_ble_eq_true rfl, Nat.le_of_ble_eq_true rfl⟩ ?_
  refine zx_if_ne (tgt := 13) (by first | exact hz _ _ | assumption | exact zr_b _ | exact zcmp_r _ _ | (unfold zr at *; omega)) dX1_changeWeight_8 (by decide) (fun h8 => ?_) (fun h8 => ?_)
  · have h8 := zb_n.mp h8
    refine zx_iloadN dX1_changeWeight_13 rfl rfl ?_
    refine zx_iconst dX1_changeWeight_14 ?_
    refine zx_bipush dX1_changeWeight_15 rfl ?_
    refine zy_cn [zi y, zi 1, zi 9] (sX9_isWithin  hfl hz (by first | exact hz _ _ | assumption | exact zr_b _ | exact zcmp_r _ _ | (unfold zr at *; omega)) (by first | exact hz _ _ | assumption | exact zr_b _ | exact zcmp_r _ _ | (unfold zr at *; omega)) (by first | exact hz _ _ | assumption | exact zr_b _ | exact zcmp_r _ _ | (unfold zr at *; omega))) dX1_changeWeight_17 cw_RX1_39 okX9_isWithin rfl (Nat.le_of_ble_eq_true rfl) ⟨Nat.le_of_ble_eq_true rfl, Nat.le_of_ble_eq_true rfl, Nat.le_of_ble_eq_true rfl, Nat.le_of_ble_eq_true rfl⟩ ?_
    refine zx_if_ne (tgt := 25) (by first | exact hz _ _ | assumption | exact zr_b _ | exact zcmp_r _ _ | (unfold zr at *; omega)) dX1_changeWeight_20 (by decide) (fun h20 => ?_) (fun h20 => ?_)
    · have h20 := zb_n.mp h20
      refine zx_aloadN dX1_changeWeight_25 rfl rfl ?_
      refine zy_getR (q' := k + 12) fl_RX1_21 rfl dX1_changeWeight_26 rfl ?_
      refine zy_getR (q' := k + 16) fl_RX1_70 rfl dX1_changeWeight_29 rfl ?_
      refine zx_iloadN dX1_changeWeight_32 rfl rfl ?_
      refine zx_iloadN dX1_changeWeight_33 rfl rfl ?_
      refine zy_iast (i := x.toNat) rfl (by decide) (by decide) dX1_changeWeight_34 (by omega) (by omega) rfl ?_
      refine zx_iconst dX1_changeWeight_35 ?_
      refine zx_iret rfl rfl dX1_changeWeight_36 ?_
      rw [hQ]
      refine ⟨congrArg (fun z : Int => (Sum.inl (some (zi z)) : Option zV ⊕ String)) ?_, by first | rfl | (exfalso; omega)⟩
      first | rfl | omega | (split <;> first | rfl | omega)
    · have h20 := zb_0.mp h20
      refine zx_iconst dX1_changeWeight_23 ?_
      refine zx_iret rfl rfl dX1_changeWeight_24 ?_
      rw [hQ]
      refine ⟨congrArg (fun z : Int => (Sum.inl (some (zi z)) : Option zV ⊕ String)) ?_, by first | rfl | (exfalso; omega)⟩
      first | rfl | omega | (split <;> first | rfl | omega)
  · have h8 := zb_0.mp h8
    refine zx_iconst dX1_changeWeight_11 ?_
    refine zx_iret rfl rfl dX1_changeWeight_12 ?_
    rw [hQ]
    refine ⟨congrArg (fun z : Int => (Sum.inl (some (zi z)) : Option zV ⊕ String)) ?_, by first | rfl | (exfalso; omega)⟩
    first | rfl | omega | (split <;> first | rfl | omega)
set_option maxRecDepth 20000 in
set_option maxHeartbeats 2000000 in
theorem sX1_changeWeight_a {l : Launch} {w : zW} (hfl : l.stackTraces = false) {σ : zS} {k : Nat} {x y : Int} (hz : zOK σ) (hx : zr x) (hy : zr y) (hK : 0 ≤ σ.1 (k + 12) 0 ∧ σ.1 (k + 12) 0 ≤ 40) (hw : 0 ≤ x ∧ x < σ.1 (k + 12) 0) (hw2 : ¬ (1 ≤ y ∧ y ≤ 9)) : Sp l w mX1_changeWeight 1 0 [zf 1 k, zi x, zi y] σ (zret (zi 2) σ) := by
  obtain ⟨Q, hQ⟩ : ∃ Q : zQ, Q = (zret (zi 2) σ) := ⟨_, rfl⟩
  rw [← hQ]
  refine zx_enter hfl (by decide) rfl 0 rfl ?_
  show zX l w mX1_changeWeight (zMQ w 1 0 Q) 0 [zf 1 k, zi x, zi y] [] 0 σ
  refine zx_aloadN dX1_changeWeight_0 rfl rfl ?_
  refine zy_getR (q' := k + 12) fl_RX1_21 rfl dX1_changeWeight_1 rfl ?_
  refine zx_iloadN dX1_changeWeight_4 rfl rfl ?_
  refine zy_cv [zi x] (sX2_has  hfl hz (by first | exact hz _ _ | assumption | exact zr_b _ | exact zcmp_r _ _ | (unfold zr at *; omega))) dX1_changeWeight_5 (by decide) rfl cw_RX1_62 okX2_has rfl (Nat.le_of_ble_eq_true rfl) ⟨Nat.le_of_ble_eq_true rfl, Nat.le_of_ble_eq_true rfl, Nat.le_of_ble_eq_true rfl, Nat.le_of_ble_eq_true rfl⟩ ?_
  refine zx_if_ne (tgt := 13) (by first | exact hz _ _ | assumption | exact zr_b _ | exact zcmp_r _ _ | (unfold zr at *; omega)) dX1_changeWeight_8 (by decide) (fun h8 => ?_) (fun h8 => ?_)
  · have h8 := zb_n.mp h8
    refine zx_iloadN dX1_changeWeight_13 rfl rfl ?_
    refine zx_iconst dX1_changeWeight_14 ?_
    refine zx_bipush dX1_changeWeight_15 rfl ?_
    refine zy_cn [zi y, zi 1, zi 9] (sX9_isWithin  hfl hz (by first | exact hz _ _ | assumption | exact zr_b _ | exact zcmp_r _ _ | (unfold zr at *; omega)) (by first | exact hz _ _ | assumption | exact zr_b _ | exact zcmp_r _ _ | (unfold zr at *; omega)) (by first | exact hz _ _ | assumption | exact zr_b _ | exact zcmp_r _ _ | (unfold zr at *; omega))) dX1_changeWeight_17 cw_RX1_39 okX9_isWithin rfl (Nat.le_of_ble_eq_true rfl) ⟨Nat.le_of_ble_eq_true rfl, Nat.le_of_ble_eq_true rfl, Nat.le_of_ble_eq_true rfl, Nat.le_of_ble_eq_true rfl⟩ ?_
    refine zx_if_ne (tgt := 25) (by first | exact hz _ _ | assumption | exact zr_b _ | exact zcmp_r _ _ | (unfold zr at *; omega)) dX1_changeWeight_20 (by decide) (fun h20 => ?_) (fun h20 => ?_)
    · have h20 := zb_n.mp h20
      refine zx_aloadN dX1_changeWeight_25 rfl rfl ?_
      refine zy_getR (q' := k + 12) fl_RX1_21 rfl dX1_changeWeight_26 rfl ?_
      refine zy_getR (q' := k + 16) fl_RX1_70 rfl dX1_changeWeight_29 rfl ?_
      refine zx_iloadN dX1_changeWeight_32 rfl rfl ?_
      refine zx_iloadN dX1_changeWeight_33 rfl rfl ?_
      refine zy_iast (i := x.toNat) rfl (by decide) (by decide) dX1_changeWeight_34 (by omega) (by omega) rfl ?_
      refine zx_iconst dX1_changeWeight_35 ?_
      refine zx_iret rfl rfl dX1_changeWeight_36 ?_
      rw [hQ]
      refine ⟨congrArg (fun z : Int => (Sum.inl (some (zi z)) : Option zV ⊕ String)) ?_, by first | rfl | (exfalso; omega)⟩
      first | rfl | omega | (split <;> first | rfl | omega)
    · have h20 := zb_0.mp h20
      refine zx_iconst dX1_changeWeight_23 ?_
      refine zx_iret rfl rfl dX1_changeWeight_24 ?_
      rw [hQ]
      refine ⟨congrArg (fun z : Int => (Sum.inl (some (zi z)) : Option zV ⊕ String)) ?_, by first | rfl | (exfalso; omega)⟩
      first | rfl | omega | (split <;> first | rfl | omega)
  · have h8 := zb_0.mp h8
    refine zx_iconst dX1_changeWeight_11 ?_
    refine zx_iret rfl rfl dX1_changeWeight_12 ?_
    rw [hQ]
    refine ⟨congrArg (fun z : Int => (Sum.inl (some (zi z)) : Option zV ⊕ String)) ?_, by first | rfl | (exfalso; omega)⟩
    first | rfl | omega | (split <;> first | rfl | omega)
set_option maxRecDepth 20000 in
set_option maxHeartbeats 2000000 in
theorem sX1_changeWeight {l : Launch} {w : zW} (hfl : l.stackTraces = false) {σ : zS} {k : Nat} {x y : Int} (hz : zOK σ) (hx : zr x) (hy : zr y) (hK : 0 ≤ σ.1 (k + 12) 0 ∧ σ.1 (k + 12) 0 ≤ 40) (hw : 0 ≤ x ∧ x < σ.1 (k + 12) 0) (hw2 : 1 ≤ y ∧ y ≤ 9) : Sp l w mX1_changeWeight 1 0 [zf 1 k, zi x, zi y] σ (zret (zi 0) (zput σ (k + 16) x.toNat y)) := by
  obtain ⟨Q, hQ⟩ : ∃ Q : zQ, Q = (zret (zi 0) (zput σ (k + 16) x.toNat y)) := ⟨_, rfl⟩
  rw [← hQ]
  refine zx_enter hfl (by decide) rfl 0 rfl ?_
  show zX l w mX1_changeWeight (zMQ w 1 0 Q) 0 [zf 1 k, zi x, zi y] [] 0 σ
  refine zx_aloadN dX1_changeWeight_0 rfl rfl ?_
  refine zy_getR (q' := k + 12) fl_RX1_21 rfl dX1_changeWeight_1 rfl ?_
  refine zx_iloadN dX1_changeWeight_4 rfl rfl ?_
  refine zy_cv [zi x] (sX2_has  hfl hz (by first | exact hz _ _ | assumption | exact zr_b _ | exact zcmp_r _ _ | (unfold zr at *; omega))) dX1_changeWeight_5 (by decide) rfl cw_RX1_62 okX2_has rfl (Nat.le_of_ble_eq_true rfl) ⟨Nat.le_of_ble_eq_true rfl, Nat.le_of_ble_eq_true rfl, Nat.le_of_ble_eq_true rfl, Nat.le_of_ble_eq_true rfl⟩ ?_
  refine zx_if_ne (tgt := 13) (by first | exact hz _ _ | assumption | exact zr_b _ | exact zcmp_r _ _ | (unfold zr at *; omega)) dX1_changeWeight_8 (by decide) (fun h8 => ?_) (fun h8 => ?_)
  · have h8 := zb_n.mp h8
    refine zx_iloadN dX1_changeWeight_13 rfl rfl ?_
    refine zx_iconst dX1_changeWeight_14 ?_
    refine zx_bipush dX1_changeWeight_15 rfl ?_
    refine zy_cn [zi y, zi 1, zi 9] (sX9_isWithin  hfl hz (by first | exact hz _ _ | assumption | exact zr_b _ | exact zcmp_r _ _ | (unfold zr at *; omega)) (by first | exact hz _ _ | assumption | exact zr_b _ | exact zcmp_r _ _ | (unfold zr at *; omega)) (by first | exact hz _ _ | assumption | exact zr_b _ | exact zcmp_r _ _ | (unfold zr at *; omega))) dX1_changeWeight_17 cw_RX1_39 okX9_isWithin rfl (Nat.le_of_ble_eq_true rfl) ⟨Nat.le_of_ble_eq_true rfl, Nat.le_of_ble_eq_true rfl, Nat.le_of_ble_eq_true rfl, Nat.le_of_ble_eq_true rfl⟩ ?_
    refine zx_if_ne (tgt := 25) (by first | exact hz _ _ | assumption | exact zr_b _ | exact zcmp_r _ _ | (unfold zr at *; omega)) dX1_changeWeight_20 (by decide) (fun h20 => ?_) (fun h20 => ?_)
    · have h20 := zb_n.mp h20
      refine zx_aloadN dX1_changeWeight_25 rfl rfl ?_
      refine zy_getR (q' := k + 12) fl_RX1_21 rfl dX1_changeWeight_26 rfl ?_
      refine zy_getR (q' := k + 16) fl_RX1_70 rfl dX1_changeWeight_29 rfl ?_
      refine zx_iloadN dX1_changeWeight_32 rfl rfl ?_
      refine zx_iloadN dX1_changeWeight_33 rfl rfl ?_
      refine zy_iast (i := x.toNat) rfl (by decide) (by decide) dX1_changeWeight_34 (by omega) (by omega) rfl ?_
      refine zx_iconst dX1_changeWeight_35 ?_
      refine zx_iret rfl rfl dX1_changeWeight_36 ?_
      rw [hQ]
      refine ⟨congrArg (fun z : Int => (Sum.inl (some (zi z)) : Option zV ⊕ String)) ?_, by first | rfl | (exfalso; omega)⟩
      first | rfl | omega | (split <;> first | rfl | omega)
    · have h20 := zb_0.mp h20
      refine zx_iconst dX1_changeWeight_23 ?_
      refine zx_iret rfl rfl dX1_changeWeight_24 ?_
      rw [hQ]
      refine ⟨congrArg (fun z : Int => (Sum.inl (some (zi z)) : Option zV ⊕ String)) ?_, by first | rfl | (exfalso; omega)⟩
      first | rfl | omega | (split <;> first | rfl | omega)
  · have h8 := zb_0.mp h8
    refine zx_iconst dX1_changeWeight_11 ?_
    refine zx_iret rfl rfl dX1_changeWeight_12 ?_
    rw [hQ]
    refine ⟨congrArg (fun z : Int => (Sum.inl (some (zi z)) : Option zV ⊕ String)) ?_, by first | rfl | (exfalso; omega)⟩
    first | rfl | omega | (split <;> first | rfl | omega)
set_option maxRecDepth 20000 in
set_option maxHeartbeats 2000000 in
theorem sX1_readOn_a {l : Launch} {w : zW} (hfl : l.stackTraces = false) {σ : zS} {k : Nat} {n : Int} (hz : zOK σ) (hx : zr n) (hw : ¬ (1 ≤ n ∧ n ≤ 40)) : Sp l w mX1_readOn 3 0 [zf 1 k, zi n] σ (zret (zi 2) σ) := by
  obtain ⟨Q, hQ⟩ : ∃ Q : zQ, Q = (zret (zi 2) σ) := ⟨_, rfl⟩
  rw [← hQ]
  refine zx_enter hfl (by decide) rfl 0 rfl ?_
  show zX l w mX1_readOn (zMQ w 3 0 Q) 0 [zf 1 k, zi n] [] 0 σ
  refine zx_iloadN dX1_readOn_0 rfl rfl ?_
  refine zx_iconst dX1_readOn_1 ?_
  refine zx_bipush dX1_readOn_2 rfl ?_
  refine zy_cn [zi n, zi 1, zi 40] (sX9_isWithin  hfl hz (by first | exact hz _ _ | assumption | exact zr_b _ | exact zcmp_r _ _ | (unfold zr at *; omega)) (by first | exact hz _ _ | assumption | exact zr_b _ | exact zcmp_r _ _ | (unfold zr at *; omega)) (by first | exact hz _ _ | assumption | exact zr_b _ | exact zcmp_r _ _ | (unfold zr at *; omega))) dX1_readOn_4 cw_RX1_39 okX9_isWithin rfl (Nat.le_of_ble_eq_true rfl) ⟨Nat.le_of_ble_eq_true rfl, Nat.le_of_ble_eq_true rfl, Nat.le_of_ble_eq_true rfl, Nat.le_of_ble_eq_true rfl⟩ ?_
  refine zx_if_ne (tgt := 12) (by first | exact hz _ _ | assumption | exact zr_b _ | exact zcmp_r _ _ | (unfold zr at *; omega)) dX1_readOn_7 (by decide) (fun h7 => ?_) (fun h7 => ?_)
  · have h7 := zb_n.mp h7
    exfalso; omega
  · have h7 := zb_0.mp h7
    refine zx_iconst dX1_readOn_10 ?_
    refine zx_iret rfl rfl dX1_readOn_11 ?_
    rw [hQ]
    refine ⟨congrArg (fun z : Int => (Sum.inl (some (zi z)) : Option zV ⊕ String)) ?_, by first | rfl | (exfalso; omega)⟩
    first | rfl | omega | (split <;> first | rfl | omega)
set_option maxRecDepth 20000 in
set_option maxHeartbeats 2000000 in
theorem sX1_readOn {l : Launch} {w : zW} (hfl : l.stackTraces = false) {σ : zS} {k : Nat} {n : Int} (hz : zOK σ) (hw : 1 ≤ n ∧ n ≤ 40) (hK : 0 ≤ σ.1 (k + 12) 0 ∧ σ.1 (k + 12) 0 ≤ 40) (hO : ∀ i : Nat, (i : Int) < σ.1 (k + 12) 0 → 0 ≤ σ.1 (k + 19) i ∧ σ.1 (k + 19) i < σ.1 (k + 12) 0) (hI : ∀ i j : Nat, (i : Int) < σ.1 (k + 12) 0 → (j : Int) < σ.1 (k + 12) 0 → (σ.1 (k + 19) i).toNat = (σ.1 (k + 19) j).toNat → i = j) : Sp l w mX1_readOn 3 0 [zf 1 k, zi n] σ (zqv (some (zi 0)) (fun τ => zOK τ ∧ zSame (fun q => q = k + 17) σ τ ∧ ∀ p : Nat, (p : Int) < σ.1 (k + 12) 0 → τ.1 (k + 17) (σ.1 (k + 19) p).toNat = if σ.1 (k + 17) (σ.1 (k + 19) p).toNat = 0 ∧ zs (fun i => zb (σ.1 (k + 17) (σ.1 (k + 19) i).toNat = 0)) p < n then 1 else σ.1 (k + 17) (σ.1 (k + 19) p).toNat)) := by
  obtain ⟨Q, hQ⟩ : ∃ Q : zQ, Q = (zqv (some (zi 0)) (fun τ => zOK τ ∧ zSame (fun q => q = k + 17) σ τ ∧ ∀ p : Nat, (p : Int) < σ.1 (k + 12) 0 → τ.1 (k + 17) (σ.1 (k + 19) p).toNat = if σ.1 (k + 17) (σ.1 (k + 19) p).toNat = 0 ∧ zs (fun i => zb (σ.1 (k + 17) (σ.1 (k + 19) i).toNat = 0)) p < n then 1 else σ.1 (k + 17) (σ.1 (k + 19) p).toNat)) := ⟨_, rfl⟩
  rw [← hQ]
  refine zx_enter hfl (by decide) rfl 0 rfl ?_
  show zX l w mX1_readOn (zMQ w 3 0 Q) 0 [zf 1 k, zi n] [] 0 σ
  refine zx_iloadN dX1_readOn_0 rfl rfl ?_
  refine zx_iconst dX1_readOn_1 ?_
  refine zx_bipush dX1_readOn_2 rfl ?_
  refine zy_cn [zi n, zi 1, zi 40] (sX9_isWithin  hfl hz (by first | exact hz _ _ | assumption | exact zr_b _ | exact zcmp_r _ _ | (unfold zr at *; omega)) (by first | exact hz _ _ | assumption | exact zr_b _ | exact zcmp_r _ _ | (unfold zr at *; omega)) (by first | exact hz _ _ | assumption | exact zr_b _ | exact zcmp_r _ _ | (unfold zr at *; omega))) dX1_readOn_4 cw_RX1_39 okX9_isWithin rfl (Nat.le_of_ble_eq_true rfl) ⟨Nat.le_of_ble_eq_true rfl, Nat.le_of_ble_eq_true rfl, Nat.le_of_ble_eq_true rfl, Nat.le_of_ble_eq_true rfl⟩ ?_
  refine zx_if_ne (tgt := 12) (by first | exact hz _ _ | assumption | exact zr_b _ | exact zcmp_r _ _ | (unfold zr at *; omega)) dX1_readOn_7 (by decide) (fun h7 => ?_) (fun h7 => ?_)
  · have h7 := zb_n.mp h7
    refine zx_aloadN dX1_readOn_12 rfl rfl ?_
    refine zy_getR (q' := k + 12) fl_RX1_21 rfl dX1_readOn_13 rfl ?_
    refine zx_iloadN dX1_readOn_16 rfl rfl ?_
    refine zy_cvvR [zi n] (sX2_learn  hfl hz hw hK hO hI) dX1_readOn_17 (by decide) rfl cw_RX1_58 okX2_learn rfl (Nat.le_of_ble_eq_true rfl) ⟨Nat.le_of_ble_eq_true rfl, Nat.le_of_ble_eq_true rfl, Nat.le_of_ble_eq_true rfl, Nat.le_of_ble_eq_true rfl⟩ (fun τ17 hr17 => ?_)
    have hz17 : zOK τ17 := hr17.1
    refine zx_iconst dX1_readOn_20 ?_
    refine zx_iret rfl rfl dX1_readOn_21 ?_
    rw [hQ]
    refine ⟨congrArg (fun z : Int => (Sum.inl (some (zi z)) : Option zV ⊕ String)) ?_, ?_⟩
    · first | rfl | assumption | omega
    exact hr17
  · have h7 := zb_0.mp h7
    exfalso; omega
set_option maxRecDepth 20000 in
set_option maxHeartbeats 2000000 in
theorem sX1_enterClue_a {l : Launch} {w : zW} (hfl : l.stackTraces = false) {σ : zS} {k : Nat} {pg kd vl wt : Int} (hz : zOK σ) (h1 : zr pg) (h2 : zr kd) (h3 : zr vl) (h4 : zr wt) (hM : 0 ≤ σ.1 (k + 1) 7 ∧ σ.1 (k + 1) 7 ≤ 8) (hK : 0 ≤ σ.1 (k + 12) 0 ∧ σ.1 (k + 12) 0 ≤ 40) (hw : ¬ ((1 ≤ pg ∧ pg ≤ 999) ∧ (1 ≤ wt ∧ wt ≤ 9) ∧ (if kd = 4 then 1450 else 0) ≤ vl ∧ vl ≤ (if kd = 0 then 31 else if kd = 1 then 15 else if kd = 2 then σ.1 (k + 1) 7 - 1 else if kd = 3 then 9 else 1999))) : Sp l w mX1_enterClue 3 0 [zf 1 k, zi pg, zi kd, zi vl, zi wt] σ (zret (zi 2) σ) := by
  obtain ⟨Q, hQ⟩ : ∃ Q : zQ, Q = (zret (zi 2) σ) := ⟨_, rfl⟩
  rw [← hQ]
  refine zx_enter hfl (by decide) rfl 0 rfl ?_
  show zX l w mX1_enterClue (zMQ w 3 0 Q) 0 [zf 1 k, zi pg, zi kd, zi vl, zi wt] [] 0 σ
  refine zx_iloadN dX1_enterClue_0 rfl rfl ?_
  refine zx_iconst dX1_enterClue_1 ?_
  refine zx_sipush dX1_enterClue_2 rfl ?_
  refine zy_cn [zi pg, zi 1, zi 999] (sX9_isWithin  hfl hz (by first | exact hz _ _ | assumption | exact zr_b _ | exact zcmp_r _ _ | (unfold zr at *; omega)) (by first | exact hz _ _ | assumption | exact zr_b _ | exact zcmp_r _ _ | (unfold zr at *; omega)) (by first | exact hz _ _ | assumption | exact zr_b _ | exact zcmp_r _ _ | (unfold zr at *; omega))) dX1_enterClue_5 cw_RX1_39 okX9_isWithin rfl (Nat.le_of_ble_eq_true rfl) ⟨Nat.le_of_ble_eq_true rfl, Nat.le_of_ble_eq_true rfl, Nat.le_of_ble_eq_true rfl, Nat.le_of_ble_eq_true rfl⟩ ?_
  refine zx_if_eq (tgt := 41) (by first | exact hz _ _ | assumption | exact zr_b _ | exact zcmp_r _ _ | (unfold zr at *; omega)) dX1_enterClue_8 (by decide) (fun h8 => ?_) (fun h8 => ?_)
  · have h8 := zb_0.mp h8
    refine zx_iconst dX1_enterClue_41 ?_
    refine zx_iret rfl rfl dX1_enterClue_42 ?_
    rw [hQ]
    refine ⟨congrArg (fun z : Int => (Sum.inl (some (zi z)) : Option zV ⊕ String)) ?_, by first | rfl | (exfalso; omega)⟩
    first | rfl | omega | (split <;> first | rfl | omega)
  · have h8 := zb_n.mp h8
    refine zx_iload dX1_enterClue_11 rfl ?_
    refine zx_iconst dX1_enterClue_13 ?_
    refine zx_bipush dX1_enterClue_14 rfl ?_
    refine zy_cn [zi wt, zi 1, zi 9] (sX9_isWithin  hfl hz (by first | exact hz _ _ | assumption | exact zr_b _ | exact zcmp_r _ _ | (unfold zr at *; omega)) (by first | exact hz _ _ | assumption | exact zr_b _ | exact zcmp_r _ _ | (unfold zr at *; omega)) (by first | exact hz _ _ | assumption | exact zr_b _ | exact zcmp_r _ _ | (unfold zr at *; omega))) dX1_enterClue_16 cw_RX1_39 okX9_isWithin rfl (Nat.le_of_ble_eq_true rfl) ⟨Nat.le_of_ble_eq_true rfl, Nat.le_of_ble_eq_true rfl, Nat.le_of_ble_eq_true rfl, Nat.le_of_ble_eq_true rfl⟩ ?_
    refine zx_if_eq (tgt := 41) (by first | exact hz _ _ | assumption | exact zr_b _ | exact zcmp_r _ _ | (unfold zr at *; omega)) dX1_enterClue_19 (by decide) (fun h19 => ?_) (fun h19 => ?_)
    · have h19 := zb_0.mp h19
      refine zx_iconst dX1_enterClue_41 ?_
      refine zx_iret rfl rfl dX1_enterClue_42 ?_
      rw [hQ]
      refine ⟨congrArg (fun z : Int => (Sum.inl (some (zi z)) : Option zV ⊕ String)) ?_, by first | rfl | (exfalso; omega)⟩
      first | rfl | omega | (split <;> first | rfl | omega)
    · have h19 := zb_n.mp h19
      refine zx_iloadN dX1_enterClue_22 rfl rfl ?_
      refine zx_iloadN dX1_enterClue_23 rfl rfl ?_
      refine zy_cs [zi kd] (sX0_lowestValue  hfl hz (by first | exact hz _ _ | assumption | exact zr_b _ | exact zcmp_r _ _ | (unfold zr at *; omega))) dX1_enterClue_24 cw_RX1_43 okX0_lowestValue rfl (Nat.le_of_ble_eq_true rfl) ⟨Nat.le_of_ble_eq_true rfl, Nat.le_of_ble_eq_true rfl, Nat.le_of_ble_eq_true rfl, Nat.le_of_ble_eq_true rfl⟩ ?_
      have zlo : zr (if kd = 4 then 1450 else 0) := by split <;> (unfold zr; omega)
      refine zx_aloadN dX1_enterClue_27 rfl rfl ?_
      refine zy_getR (q' := k + 1) fl_RX1_12 rfl dX1_enterClue_28 rfl ?_
      refine zx_iloadN dX1_enterClue_31 rfl rfl ?_
      refine zy_cv [zi kd] (sX0_highestValue  hfl hz (by first | exact hz _ _ | assumption | exact zr_b _ | exact zcmp_r _ _ | (unfold zr at *; omega))) dX1_enterClue_32 (by decide) rfl cw_RX1_47 okX0_highestValue rfl (Nat.le_of_ble_eq_true rfl) ⟨Nat.le_of_ble_eq_true rfl, Nat.le_of_ble_eq_true rfl, Nat.le_of_ble_eq_true rfl, Nat.le_of_ble_eq_true rfl⟩ ?_
      have zhi : zr (if kd = 0 then 31 else if kd = 1 then 15 else if kd = 2 then σ.1 (k + 1) 7 - 1 else if kd = 3 then 9 else 1999) := by (repeat' split) <;> (unfold zr; omega)
      refine zy_cn [zi vl, zi (if kd = 4 then 1450 else 0), zi (if kd = 0 then 31 else if kd = 1 then 15 else if kd = 2 then σ.1 (k + 1) 7 - 1 else if kd = 3 then 9 else 1999)] (sX9_isWithin  hfl hz (by first | exact hz _ _ | assumption | exact zr_b _ | exact zcmp_r _ _ | (unfold zr at *; omega)) (by first | exact hz _ _ | assumption | exact zr_b _ | exact zcmp_r _ _ | (unfold zr at *; omega)) (by first | exact hz _ _ | assumption | exact zr_b _ | exact zcmp_r _ _ | (unfold zr at *; omega))) dX1_enterClue_35 cw_RX1_39 okX9_isWithin rfl (Nat.le_of_ble_eq_true rfl) ⟨Nat.le_of_ble_eq_true rfl, Nat.le_of_ble_eq_true rfl, Nat.le_of_ble_eq_true rfl, Nat.le_of_ble_eq_true rfl⟩ ?_
      refine zx_if_ne (tgt := 43) (by first | exact hz _ _ | assumption | exact zr_b _ | exact zcmp_r _ _ | (unfold zr at *; omega)) dX1_enterClue_38 (by decide) (fun h38 => ?_) (fun h38 => ?_)
      · have h38 := zb_n.mp h38
        exact absurd ⟨by assumption, by assumption, by assumption⟩ hw
      · have h38 := zb_0.mp h38
        refine zx_iconst dX1_enterClue_41 ?_
        refine zx_iret rfl rfl dX1_enterClue_42 ?_
        rw [hQ]
        refine ⟨congrArg (fun z : Int => (Sum.inl (some (zi z)) : Option zV ⊕ String)) ?_, by first | rfl | (exfalso; omega)⟩
        first | rfl | omega | (split <;> first | rfl | omega)
set_option maxRecDepth 20000 in
set_option maxHeartbeats 2000000 in
theorem sX1_enterClue_s {l : Launch} {w : zW} (hfl : l.stackTraces = false) {σ : zS} {k : Nat} {pg kd vl wt : Int} (hz : zOK σ) (h1 : zr pg) (h2 : zr kd) (h3 : zr vl) (h4 : zr wt) (hM : 0 ≤ σ.1 (k + 1) 7 ∧ σ.1 (k + 1) 7 ≤ 8) (hK : 0 ≤ σ.1 (k + 12) 0 ∧ σ.1 (k + 12) 0 ≤ 40) (hw : (1 ≤ pg ∧ pg ≤ 999) ∧ (1 ≤ wt ∧ wt ≤ 9) ∧ (if kd = 4 then 1450 else 0) ≤ vl ∧ vl ≤ (if kd = 0 then 31 else if kd = 1 then 15 else if kd = 2 then σ.1 (k + 1) 7 - 1 else if kd = 3 then 9 else 1999)) (hw2 : 40 ≤ σ.1 (k + 12) 0) : Sp l w mX1_enterClue 3 0 [zf 1 k, zi pg, zi kd, zi vl, zi wt] σ (zret (zi 3) σ) := by
  obtain ⟨Q, hQ⟩ : ∃ Q : zQ, Q = (zret (zi 3) σ) := ⟨_, rfl⟩
  rw [← hQ]
  refine zx_enter hfl (by decide) rfl 0 rfl ?_
  show zX l w mX1_enterClue (zMQ w 3 0 Q) 0 [zf 1 k, zi pg, zi kd, zi vl, zi wt] [] 0 σ
  refine zx_iloadN dX1_enterClue_0 rfl rfl ?_
  refine zx_iconst dX1_enterClue_1 ?_
  refine zx_sipush dX1_enterClue_2 rfl ?_
  refine zy_cn [zi pg, zi 1, zi 999] (sX9_isWithin  hfl hz (by first | exact hz _ _ | assumption | exact zr_b _ | exact zcmp_r _ _ | (unfold zr at *; omega)) (by first | exact hz _ _ | assumption | exact zr_b _ | exact zcmp_r _ _ | (unfold zr at *; omega)) (by first | exact hz _ _ | assumption | exact zr_b _ | exact zcmp_r _ _ | (unfold zr at *; omega))) dX1_enterClue_5 cw_RX1_39 okX9_isWithin rfl (Nat.le_of_ble_eq_true rfl) ⟨Nat.le_of_ble_eq_true rfl, Nat.le_of_ble_eq_true rfl, Nat.le_of_ble_eq_true rfl, Nat.le_of_ble_eq_true rfl⟩ ?_
  refine zx_if_eq (tgt := 41) (by first | exact hz _ _ | assumption | exact zr_b _ | exact zcmp_r _ _ | (unfold zr at *; omega)) dX1_enterClue_8 (by decide) (fun h8 => ?_) (fun h8 => ?_)
  · have h8 := zb_0.mp h8
    exfalso; first | exact absurd hw.1 (by assumption) | exact absurd hw.2.1 (by assumption) | exact absurd hw.2.2 (by assumption)
  · have h8 := zb_n.mp h8
    refine zx_iload dX1_enterClue_11 rfl ?_
    refine zx_iconst dX1_enterClue_13 ?_
    refine zx_bipush dX1_enterClue_14 rfl ?_
    refine zy_cn [zi wt, zi 1, zi 9] (sX9_isWithin  hfl hz (by first | exact hz _ _ | assumption | exact zr_b _ | exact zcmp_r _ _ | (unfold zr at *; omega)) (by first | exact hz _ _ | assumption | exact zr_b _ | exact zcmp_r _ _ | (unfold zr at *; omega)) (by first | exact hz _ _ | assumption | exact zr_b _ | exact zcmp_r _ _ | (unfold zr at *; omega))) dX1_enterClue_16 cw_RX1_39 okX9_isWithin rfl (Nat.le_of_ble_eq_true rfl) ⟨Nat.le_of_ble_eq_true rfl, Nat.le_of_ble_eq_true rfl, Nat.le_of_ble_eq_true rfl, Nat.le_of_ble_eq_true rfl⟩ ?_
    refine zx_if_eq (tgt := 41) (by first | exact hz _ _ | assumption | exact zr_b _ | exact zcmp_r _ _ | (unfold zr at *; omega)) dX1_enterClue_19 (by decide) (fun h19 => ?_) (fun h19 => ?_)
    · have h19 := zb_0.mp h19
      exfalso; first | exact absurd hw.1 (by assumption) | exact absurd hw.2.1 (by assumption) | exact absurd hw.2.2 (by assumption)
    · have h19 := zb_n.mp h19
      refine zx_iloadN dX1_enterClue_22 rfl rfl ?_
      refine zx_iloadN dX1_enterClue_23 rfl rfl ?_
      refine zy_cs [zi kd] (sX0_lowestValue  hfl hz (by first | exact hz _ _ | assumption | exact zr_b _ | exact zcmp_r _ _ | (unfold zr at *; omega))) dX1_enterClue_24 cw_RX1_43 okX0_lowestValue rfl (Nat.le_of_ble_eq_true rfl) ⟨Nat.le_of_ble_eq_true rfl, Nat.le_of_ble_eq_true rfl, Nat.le_of_ble_eq_true rfl, Nat.le_of_ble_eq_true rfl⟩ ?_
      have zlo : zr (if kd = 4 then 1450 else 0) := by split <;> (unfold zr; omega)
      refine zx_aloadN dX1_enterClue_27 rfl rfl ?_
      refine zy_getR (q' := k + 1) fl_RX1_12 rfl dX1_enterClue_28 rfl ?_
      refine zx_iloadN dX1_enterClue_31 rfl rfl ?_
      refine zy_cv [zi kd] (sX0_highestValue  hfl hz (by first | exact hz _ _ | assumption | exact zr_b _ | exact zcmp_r _ _ | (unfold zr at *; omega))) dX1_enterClue_32 (by decide) rfl cw_RX1_47 okX0_highestValue rfl (Nat.le_of_ble_eq_true rfl) ⟨Nat.le_of_ble_eq_true rfl, Nat.le_of_ble_eq_true rfl, Nat.le_of_ble_eq_true rfl, Nat.le_of_ble_eq_true rfl⟩ ?_
      have zhi : zr (if kd = 0 then 31 else if kd = 1 then 15 else if kd = 2 then σ.1 (k + 1) 7 - 1 else if kd = 3 then 9 else 1999) := by (repeat' split) <;> (unfold zr; omega)
      refine zy_cn [zi vl, zi (if kd = 4 then 1450 else 0), zi (if kd = 0 then 31 else if kd = 1 then 15 else if kd = 2 then σ.1 (k + 1) 7 - 1 else if kd = 3 then 9 else 1999)] (sX9_isWithin  hfl hz (by first | exact hz _ _ | assumption | exact zr_b _ | exact zcmp_r _ _ | (unfold zr at *; omega)) (by first | exact hz _ _ | assumption | exact zr_b _ | exact zcmp_r _ _ | (unfold zr at *; omega)) (by first | exact hz _ _ | assumption | exact zr_b _ | exact zcmp_r _ _ | (unfold zr at *; omega))) dX1_enterClue_35 cw_RX1_39 okX9_isWithin rfl (Nat.le_of_ble_eq_true rfl) ⟨Nat.le_of_ble_eq_true rfl, Nat.le_of_ble_eq_true rfl, Nat.le_of_ble_eq_true rfl, Nat.le_of_ble_eq_true rfl⟩ ?_
      refine zx_if_ne (tgt := 43) (by first | exact hz _ _ | assumption | exact zr_b _ | exact zcmp_r _ _ | (unfold zr at *; omega)) dX1_enterClue_38 (by decide) (fun h38 => ?_) (fun h38 => ?_)
      · have h38 := zb_n.mp h38
        refine zx_aloadN dX1_enterClue_43 rfl rfl ?_
        refine zy_getR (q' := k + 12) fl_RX1_21 rfl dX1_enterClue_44 rfl ?_
        refine zy_cv [] (sX2_isFull  hfl hz ) dX1_enterClue_47 (by decide) rfl cw_RX1_50 okX2_isFull rfl (Nat.le_of_ble_eq_true rfl) ⟨Nat.le_of_ble_eq_true rfl, Nat.le_of_ble_eq_true rfl, Nat.le_of_ble_eq_true rfl, Nat.le_of_ble_eq_true rfl⟩ ?_
        refine zx_if_eq (tgt := 55) (by first | exact hz _ _ | assumption | exact zr_b _ | exact zcmp_r _ _ | (unfold zr at *; omega)) dX1_enterClue_50 (by decide) (fun h50 => ?_) (fun h50 => ?_)
        · have h50 := zb_0.mp h50
          exfalso; omega
        · have h50 := zb_n.mp h50
          refine zx_iconst dX1_enterClue_53 ?_
          refine zx_iret rfl rfl dX1_enterClue_54 ?_
          rw [hQ]
          refine ⟨congrArg (fun z : Int => (Sum.inl (some (zi z)) : Option zV ⊕ String)) ?_, by first | rfl | (exfalso; omega)⟩
          first | rfl | omega | (split <;> first | rfl | omega)
      · have h38 := zb_0.mp h38
        exfalso; first | exact absurd hw.1 (by assumption) | exact absurd hw.2.1 (by assumption) | exact absurd hw.2.2 (by assumption)
set_option maxRecDepth 20000 in
set_option maxHeartbeats 2000000 in
theorem sX1_enterClue {l : Launch} {w : zW} (hfl : l.stackTraces = false) {σ : zS} {k : Nat} {pg kd vl wt : Int} (hz : zOK σ) (h1 : zr pg) (h2 : zr kd) (h3 : zr vl) (h4 : zr wt) (hM : 0 ≤ σ.1 (k + 1) 7 ∧ σ.1 (k + 1) 7 ≤ 8) (hK : 0 ≤ σ.1 (k + 12) 0 ∧ σ.1 (k + 12) 0 ≤ 40) (hw : (1 ≤ pg ∧ pg ≤ 999) ∧ (1 ≤ wt ∧ wt ≤ 9) ∧ (if kd = 4 then 1450 else 0) ≤ vl ∧ vl ≤ (if kd = 0 then 31 else if kd = 1 then 15 else if kd = 2 then σ.1 (k + 1) 7 - 1 else if kd = 3 then 9 else 1999)) (hw2 : σ.1 (k + 12) 0 < 40) (hO : ∀ i : Nat, (i : Int) < σ.1 (k + 12) 0 → 0 ≤ σ.1 (k + 19) i ∧ σ.1 (k + 19) i < σ.1 (k + 12) 0) : Sp l w mX1_enterClue 3 0 [zf 1 k, zi pg, zi kd, zi vl, zi wt] σ (zqv (some (zi 0)) (fun τ => addR σ τ (k + 12) pg kd vl wt)) := by
  obtain ⟨Q, hQ⟩ : ∃ Q : zQ, Q = (zqv (some (zi 0)) (fun τ => addR σ τ (k + 12) pg kd vl wt)) := ⟨_, rfl⟩
  rw [← hQ]
  refine zx_enter hfl (by decide) rfl 0 rfl ?_
  show zX l w mX1_enterClue (zMQ w 3 0 Q) 0 [zf 1 k, zi pg, zi kd, zi vl, zi wt] [] 0 σ
  refine zx_iloadN dX1_enterClue_0 rfl rfl ?_
  refine zx_iconst dX1_enterClue_1 ?_
  refine zx_sipush dX1_enterClue_2 rfl ?_
  refine zy_cn [zi pg, zi 1, zi 999] (sX9_isWithin  hfl hz (by first | exact hz _ _ | assumption | exact zr_b _ | exact zcmp_r _ _ | (unfold zr at *; omega)) (by first | exact hz _ _ | assumption | exact zr_b _ | exact zcmp_r _ _ | (unfold zr at *; omega)) (by first | exact hz _ _ | assumption | exact zr_b _ | exact zcmp_r _ _ | (unfold zr at *; omega))) dX1_enterClue_5 cw_RX1_39 okX9_isWithin rfl (Nat.le_of_ble_eq_true rfl) ⟨Nat.le_of_ble_eq_true rfl, Nat.le_of_ble_eq_true rfl, Nat.le_of_ble_eq_true rfl, Nat.le_of_ble_eq_true rfl⟩ ?_
  refine zx_if_eq (tgt := 41) (by first | exact hz _ _ | assumption | exact zr_b _ | exact zcmp_r _ _ | (unfold zr at *; omega)) dX1_enterClue_8 (by decide) (fun h8 => ?_) (fun h8 => ?_)
  · have h8 := zb_0.mp h8
    exfalso; first | exact absurd hw.1 (by assumption) | exact absurd hw.2.1 (by assumption) | exact absurd hw.2.2 (by assumption)
  · have h8 := zb_n.mp h8
    refine zx_iload dX1_enterClue_11 rfl ?_
    refine zx_iconst dX1_enterClue_13 ?_
    refine zx_bipush dX1_enterClue_14 rfl ?_
    refine zy_cn [zi wt, zi 1, zi 9] (sX9_isWithin  hfl hz (by first | exact hz _ _ | assumption | exact zr_b _ | exact zcmp_r _ _ | (unfold zr at *; omega)) (by first | exact hz _ _ | assumption | exact zr_b _ | exact zcmp_r _ _ | (unfold zr at *; omega)) (by first | exact hz _ _ | assumption | exact zr_b _ | exact zcmp_r _ _ | (unfold zr at *; omega))) dX1_enterClue_16 cw_RX1_39 okX9_isWithin rfl (Nat.le_of_ble_eq_true rfl) ⟨Nat.le_of_ble_eq_true rfl, Nat.le_of_ble_eq_true rfl, Nat.le_of_ble_eq_true rfl, Nat.le_of_ble_eq_true rfl⟩ ?_
    refine zx_if_eq (tgt := 41) (by first | exact hz _ _ | assumption | exact zr_b _ | exact zcmp_r _ _ | (unfold zr at *; omega)) dX1_enterClue_19 (by decide) (fun h19 => ?_) (fun h19 => ?_)
    · have h19 := zb_0.mp h19
      exfalso; first | exact absurd hw.1 (by assumption) | exact absurd hw.2.1 (by assumption) | exact absurd hw.2.2 (by assumption)
    · have h19 := zb_n.mp h19
      refine zx_iloadN dX1_enterClue_22 rfl rfl ?_
      refine zx_iloadN dX1_enterClue_23 rfl rfl ?_
      refine zy_cs [zi kd] (sX0_lowestValue  hfl hz (by first | exact hz _ _ | assumption | exact zr_b _ | exact zcmp_r _ _ | (unfold zr at *; omega))) dX1_enterClue_24 cw_RX1_43 okX0_lowestValue rfl (Nat.le_of_ble_eq_true rfl) ⟨Nat.le_of_ble_eq_true rfl, Nat.le_of_ble_eq_true rfl, Nat.le_of_ble_eq_true rfl, Nat.le_of_ble_eq_true rfl⟩ ?_
      have zlo : zr (if kd = 4 then 1450 else 0) := by split <;> (unfold zr; omega)
      refine zx_aloadN dX1_enterClue_27 rfl rfl ?_
      refine zy_getR (q' := k + 1) fl_RX1_12 rfl dX1_enterClue_28 rfl ?_
      refine zx_iloadN dX1_enterClue_31 rfl rfl ?_
      refine zy_cv [zi kd] (sX0_highestValue  hfl hz (by first | exact hz _ _ | assumption | exact zr_b _ | exact zcmp_r _ _ | (unfold zr at *; omega))) dX1_enterClue_32 (by decide) rfl cw_RX1_47 okX0_highestValue rfl (Nat.le_of_ble_eq_true rfl) ⟨Nat.le_of_ble_eq_true rfl, Nat.le_of_ble_eq_true rfl, Nat.le_of_ble_eq_true rfl, Nat.le_of_ble_eq_true rfl⟩ ?_
      have zhi : zr (if kd = 0 then 31 else if kd = 1 then 15 else if kd = 2 then σ.1 (k + 1) 7 - 1 else if kd = 3 then 9 else 1999) := by (repeat' split) <;> (unfold zr; omega)
      refine zy_cn [zi vl, zi (if kd = 4 then 1450 else 0), zi (if kd = 0 then 31 else if kd = 1 then 15 else if kd = 2 then σ.1 (k + 1) 7 - 1 else if kd = 3 then 9 else 1999)] (sX9_isWithin  hfl hz (by first | exact hz _ _ | assumption | exact zr_b _ | exact zcmp_r _ _ | (unfold zr at *; omega)) (by first | exact hz _ _ | assumption | exact zr_b _ | exact zcmp_r _ _ | (unfold zr at *; omega)) (by first | exact hz _ _ | assumption | exact zr_b _ | exact zcmp_r _ _ | (unfold zr at *; omega))) dX1_enterClue_35 cw_RX1_39 okX9_isWithin rfl (Nat.le_of_ble_eq_true rfl) ⟨Nat.le_of_ble_eq_true rfl, Nat.le_of_ble_eq_true rfl, Nat.le_of_ble_eq_true rfl, Nat.le_of_ble_eq_true rfl⟩ ?_
      refine zx_if_ne (tgt := 43) (by first | exact hz _ _ | assumption | exact zr_b _ | exact zcmp_r _ _ | (unfold zr at *; omega)) dX1_enterClue_38 (by decide) (fun h38 => ?_) (fun h38 => ?_)
      · have h38 := zb_n.mp h38
        refine zx_aloadN dX1_enterClue_43 rfl rfl ?_
        refine zy_getR (q' := k + 12) fl_RX1_21 rfl dX1_enterClue_44 rfl ?_
        refine zy_cv [] (sX2_isFull  hfl hz ) dX1_enterClue_47 (by decide) rfl cw_RX1_50 okX2_isFull rfl (Nat.le_of_ble_eq_true rfl) ⟨Nat.le_of_ble_eq_true rfl, Nat.le_of_ble_eq_true rfl, Nat.le_of_ble_eq_true rfl, Nat.le_of_ble_eq_true rfl⟩ ?_
        refine zx_if_eq (tgt := 55) (by first | exact hz _ _ | assumption | exact zr_b _ | exact zcmp_r _ _ | (unfold zr at *; omega)) dX1_enterClue_50 (by decide) (fun h50 => ?_) (fun h50 => ?_)
        · have h50 := zb_0.mp h50
          refine zx_aloadN dX1_enterClue_55 rfl rfl ?_
          refine zy_getR (q' := k + 12) fl_RX1_21 rfl dX1_enterClue_56 rfl ?_
          refine zx_iloadN dX1_enterClue_59 rfl rfl ?_
          refine zx_iloadN dX1_enterClue_60 rfl rfl ?_
          refine zx_iloadN dX1_enterClue_61 rfl rfl ?_
          refine zx_iload dX1_enterClue_62 rfl ?_
          refine zy_cvvR [zi pg, zi kd, zi vl, zi wt] (sX2_add  hfl hz (by first | exact hz _ _ | assumption | exact zr_b _ | exact zcmp_r _ _ | (unfold zr at *; omega)) (by first | exact hz _ _ | assumption | exact zr_b _ | exact zcmp_r _ _ | (unfold zr at *; omega)) (by first | exact hz _ _ | assumption | exact zr_b _ | exact zcmp_r _ _ | (unfold zr at *; omega)) (by first | exact hz _ _ | assumption | exact zr_b _ | exact zcmp_r _ _ | (unfold zr at *; omega)) (by first | assumption | omega) hO) dX1_enterClue_64 (by decide) rfl cw_RX1_54 okX2_add rfl (Nat.le_of_ble_eq_true rfl) ⟨Nat.le_of_ble_eq_true rfl, Nat.le_of_ble_eq_true rfl, Nat.le_of_ble_eq_true rfl, Nat.le_of_ble_eq_true rfl⟩ (fun τ64 hr64 => ?_)
          have hz64 : zOK τ64 := hr64.1
          refine zx_iconst dX1_enterClue_67 ?_
          refine zx_iret rfl rfl dX1_enterClue_68 ?_
          rw [hQ]
          refine ⟨congrArg (fun z : Int => (Sum.inl (some (zi z)) : Option zV ⊕ String)) ?_, ?_⟩
          · first | rfl | assumption | omega
          exact hr64
        · have h50 := zb_n.mp h50
          exfalso; omega
      · have h38 := zb_0.mp h38
        exfalso; first | exact absurd hw.1 (by assumption) | exact absurd hw.2.1 (by assumption) | exact absurd hw.2.2 (by assumption)
set_option maxRecDepth 20000 in
set_option maxHeartbeats 2000000 in
theorem sX5_prepare {l : Launch} {w : zW} (hfl : l.stackTraces = false) {σ : zS}  (hz : zOK σ) (hN : 0 ≤ σ.1 70 1 ∧ σ.1 70 1 ≤ 8) (hB : ∀ i, i < 40 → (σ.1 (30 + 17) i = 0 ∨ σ.1 (30 + 17) i = 1) ∧ (σ.1 (30 + 18) i = 0 ∨ σ.1 (30 + 18) i = 1)) : Sp l w mX5_prepare 3 0 [zf 5 70, zf 1 30] σ (zqv (none) (fun τ => zOK τ ∧ zSame (fun q => 72 + 20 * (σ.1 70 1).toNat ≤ q ∧ q ≤ 72 + 20 * (σ.1 70 1).toNat + 19) σ τ ∧ cpA σ τ (30 + 1) (72 + 20 * (σ.1 70 1).toNat + 1) ∧ cpC σ τ (30 + 12) (72 + 20 * (σ.1 70 1).toNat + 12))) := by
  obtain ⟨Q, hQ⟩ : ∃ Q : zQ, Q = (zqv (none) (fun τ => zOK τ ∧ zSame (fun q => 72 + 20 * (σ.1 70 1).toNat ≤ q ∧ q ≤ 72 + 20 * (σ.1 70 1).toNat + 19) σ τ ∧ cpA σ τ (30 + 1) (72 + 20 * (σ.1 70 1).toNat + 1) ∧ cpC σ τ (30 + 12) (72 + 20 * (σ.1 70 1).toNat + 12))) := ⟨_, rfl⟩
  rw [← hQ]
  refine zx_enter hfl (by decide) rfl 0 rfl ?_
  show zX l w mX5_prepare (zMQ w 3 0 Q) 0 [zf 5 70, zf 1 30] [] 0 σ
  refine zx_aloadN dX5_prepare_0 rfl rfl ?_
  refine zy_getI fl_RX5_17 rfl dX5_prepare_1 rfl ?_
  refine zx_if_lt (tgt := 44) (by first | exact hz _ _ | assumption | exact zr_b _ | exact zcmp_r _ _ | (unfold zr at *; omega)) dX5_prepare_4 (by decide) (fun h4 => ?_) (fun h4 => ?_)
  · refine zx_vret rfl dX5_prepare_44 ?_
    rw [hQ]
    refine ⟨rfl, ?_⟩
    first | (exfalso; omega) | exact hr41
  · refine zx_aloadN dX5_prepare_7 rfl rfl ?_
    refine zy_getI fl_RX5_17 rfl dX5_prepare_8 rfl ?_
    refine zx_aloadN dX5_prepare_11 rfl rfl ?_
    refine zy_getR (q' := 71) fl_RX5_13 rfl dX5_prepare_12 rfl ?_
    refine zx_alenQ dX5_prepare_15 ?_
    refine zx_icmp_ge (tgt := 44) (by first | exact hz _ _ | assumption | exact zr_b _ | exact zcmp_r _ _ | (unfold zr at *; omega)) (by first | exact hz _ _ | assumption | exact zr_b _ | exact zcmp_r _ _ | (unfold zr at *; omega)) dX5_prepare_16 (by decide) (fun h16 => ?_) (fun h16 => ?_)
    · refine zx_vret rfl dX5_prepare_44 ?_
      rw [hQ]
      refine ⟨rfl, ?_⟩
      first | (exfalso; omega) | exact hr41
    · refine zx_aloadN dX5_prepare_19 rfl rfl ?_
      refine zy_getR (q' := 71) fl_RX5_13 rfl dX5_prepare_20 rfl ?_
      refine zx_aloadN dX5_prepare_23 rfl rfl ?_
      refine zy_getI fl_RX5_17 rfl dX5_prepare_24 rfl ?_
      refine zy_aald (q' := 72 + 20 * ((σ.1 70 1).toNat)) dX5_prepare_27 (by omega) (by omega) rfl ?_
      refine zx_ifnull dX5_prepare_28 ?_
      refine zx_aloadN dX5_prepare_31 rfl rfl ?_
      refine zy_getR (q' := 71) fl_RX5_13 rfl dX5_prepare_32 rfl ?_
      refine zx_aloadN dX5_prepare_35 rfl rfl ?_
      refine zy_getI fl_RX5_17 rfl dX5_prepare_36 rfl ?_
      refine zy_aald (q' := 72 + 20 * ((σ.1 70 1).toNat)) dX5_prepare_39 (by omega) (by omega) rfl ?_
      refine zx_aloadN dX5_prepare_40 rfl rfl ?_
      refine zy_cvvR [zf 1 30] (sX1_copyFrom  hfl hz (by omega) hB) dX5_prepare_41 (by decide) rfl cw_RX5_25 okX1_copyFrom rfl (Nat.le_of_ble_eq_true rfl) ⟨Nat.le_of_ble_eq_true rfl, Nat.le_of_ble_eq_true rfl, Nat.le_of_ble_eq_true rfl, Nat.le_of_ble_eq_true rfl⟩ (fun τ41 hr41 => ?_)
      have hz41 : zOK τ41 := hr41.1
      refine zx_vret rfl dX5_prepare_44 ?_
      rw [hQ]
      refine ⟨rfl, ?_⟩
      first | (exfalso; omega) | exact hr41
set_option maxRecDepth 20000 in
set_option maxHeartbeats 2000000 in
theorem sX5_commit {l : Launch} {w : zW} (hfl : l.stackTraces = false) {σ : zS}  (hz : zOK σ) (hN : 0 ≤ σ.1 70 1 ∧ σ.1 70 1 ≤ 8) (hC : 0 ≤ σ.1 70 2 ∧ σ.1 70 2 ≤ 8) : Sp l w mX5_commit 1 0 [zf 5 70] σ (zqv (none) (fun τ => zOK τ ∧ (∀ k i, τ.1 k i = if k = 70 ∧ i = 1 then (if σ.1 70 1 + 1 < 9 then σ.1 70 1 + 1 else 0) else if k = 70 ∧ i = 2 then (if σ.1 70 2 + 1 ≤ 8 then σ.1 70 2 + 1 else 8) else σ.1 k i) ∧ τ.2 = σ.2)) := by
  obtain ⟨Q, hQ⟩ : ∃ Q : zQ, Q = (zqv (none) (fun τ => zOK τ ∧ (∀ k i, τ.1 k i = if k = 70 ∧ i = 1 then (if σ.1 70 1 + 1 < 9 then σ.1 70 1 + 1 else 0) else if k = 70 ∧ i = 2 then (if σ.1 70 2 + 1 ≤ 8 then σ.1 70 2 + 1 else 8) else σ.1 k i) ∧ τ.2 = σ.2)) := ⟨_, rfl⟩
  rw [← hQ]
  refine zx_enter hfl (by decide) rfl 0 rfl ?_
  show zX l w mX5_commit (zMQ w 1 0 Q) 0 [zf 5 70] [] 0 σ
  refine zx_aloadN dX5_commit_0 rfl rfl ?_
  refine zx_aloadN dX5_commit_1 rfl rfl ?_
  refine zy_getI fl_RX5_17 rfl dX5_commit_2 rfl ?_
  refine zx_iconst dX5_commit_5 ?_
  refine zx_iadd dX5_commit_6 ?_
  refine zx_bipush dX5_commit_7 rfl ?_
  refine zx_icmp_ge (tgt := 21) (by first | exact hz _ _ | assumption | exact zr_b _ | exact zcmp_r _ _ | (unfold zr at *; omega)) (by first | exact hz _ _ | assumption | exact zr_b _ | exact zcmp_r _ _ | (unfold zr at *; omega)) dX5_commit_9 (by decide) (fun h9 => ?_) (fun h9 => ?_)
  · refine zx_iconst dX5_commit_21 ?_
    refine zx_putI fl_RX5_17 rfl (Or.inl fp_5_1) dX5_commit_22 ?_
    refine zx_aloadN dX5_commit_25 rfl rfl ?_
    refine zx_aloadN dX5_commit_26 rfl rfl ?_
    refine zy_getI (v := σ.1 70 2) fl_RX5_21 rfl dX5_commit_27 (zput_i _ _ _ _ _ (by omega)) ?_
    refine zx_iconst dX5_commit_30 ?_
    refine zx_iadd dX5_commit_31 ?_
    refine zx_bipush dX5_commit_32 rfl ?_
    refine zx_min (by first | exact hz _ _ | assumption | exact zr_b _ | exact zcmp_r _ _ | (unfold zr at *; omega)) (by first | exact hz _ _ | assumption | exact zr_b _ | exact zcmp_r _ _ | (unfold zr at *; omega)) mw_RX5_29 (Nat.le_of_ble_eq_true rfl) ⟨Nat.le_of_ble_eq_true rfl, Nat.le_of_ble_eq_true rfl⟩ dX5_commit_34 ?_
    refine zx_putI fl_RX5_21 rfl (Or.inl fp_5_2) dX5_commit_37 ?_
    refine zx_vret rfl dX5_commit_40 ?_
    rw [hQ]
    refine ⟨rfl, ?_⟩
    refine ⟨(zOK_put (zOK_put hz (by unfold zr; omega)) (by first | exact hz _ _ | assumption | exact zr_b _ | exact zcmp_r _ _ | (unfold zr at *; omega))), fun k i => ?_, rfl⟩
    simp only [zput_e]
    (repeat' split) <;> omega
  · refine zx_aloadN dX5_commit_12 rfl rfl ?_
    refine zy_getI fl_RX5_17 rfl dX5_commit_13 rfl ?_
    refine zx_iconst dX5_commit_16 ?_
    refine zx_iadd dX5_commit_17 ?_
    refine zx_goto (tgt := 22) dX5_commit_18 (by decide) ?_
    refine zx_putI fl_RX5_17 rfl (Or.inl fp_5_1) dX5_commit_22 ?_
    refine zx_aloadN dX5_commit_25 rfl rfl ?_
    refine zx_aloadN dX5_commit_26 rfl rfl ?_
    refine zy_getI (v := σ.1 70 2) fl_RX5_21 rfl dX5_commit_27 (zput_i _ _ _ _ _ (by omega)) ?_
    refine zx_iconst dX5_commit_30 ?_
    refine zx_iadd dX5_commit_31 ?_
    refine zx_bipush dX5_commit_32 rfl ?_
    refine zx_min (by first | exact hz _ _ | assumption | exact zr_b _ | exact zcmp_r _ _ | (unfold zr at *; omega)) (by first | exact hz _ _ | assumption | exact zr_b _ | exact zcmp_r _ _ | (unfold zr at *; omega)) mw_RX5_29 (Nat.le_of_ble_eq_true rfl) ⟨Nat.le_of_ble_eq_true rfl, Nat.le_of_ble_eq_true rfl⟩ dX5_commit_34 ?_
    refine zx_putI fl_RX5_21 rfl (Or.inl fp_5_2) dX5_commit_37 ?_
    refine zx_vret rfl dX5_commit_40 ?_
    rw [hQ]
    refine ⟨rfl, ?_⟩
    refine ⟨(zOK_put (zOK_put hz (by first | exact hz _ _ | assumption | exact zr_b _ | exact zcmp_r _ _ | (unfold zr at *; omega))) (by first | exact hz _ _ | assumption | exact zr_b _ | exact zcmp_r _ _ | (unfold zr at *; omega))), fun k i => ?_, rfl⟩
    simp only [zput_e]
    (repeat' split) <;> omega
set_option maxRecDepth 20000 in
set_option maxHeartbeats 2000000 in
theorem sX5_forget {l : Launch} {w : zW} (hfl : l.stackTraces = false) {σ : zS}  (hz : zOK σ)  : Sp l w mX5_forget 0 0 [zf 5 70] σ (zrtv (zput σ 70 2 0)) := by
  obtain ⟨Q, hQ⟩ : ∃ Q : zQ, Q = (zrtv (zput σ 70 2 0)) := ⟨_, rfl⟩
  rw [← hQ]
  refine zx_enter hfl (by decide) rfl 0 rfl ?_
  show zX l w mX5_forget (zMQ w 0 0 Q) 0 [zf 5 70] [] 0 σ
  refine zx_aloadN dX5_forget_0 rfl rfl ?_
  refine zx_iconst dX5_forget_1 ?_
  refine zx_putI fl_RX5_21 rfl (Or.inl fp_5_2) dX5_forget_2 ?_
  refine zx_vret rfl dX5_forget_5 ?_
  rw [hQ]
  exact ⟨rfl, by first | rfl | (exfalso; omega)⟩
set_option maxRecDepth 20000 in
set_option maxHeartbeats 2000000 in
theorem sX5_bringBack {l : Launch} {w : zW} (hfl : l.stackTraces = false) {σ : zS}  (hz : zOK σ) (hN : 0 ≤ σ.1 70 1 ∧ σ.1 70 1 ≤ 8) (hN2 : 0 < σ.1 70 1) (hC : 0 ≤ σ.1 70 2 ∧ σ.1 70 2 ≤ 8) (hB : ∀ r : Nat, r < 9 → ∀ i, i < 40 → (σ.1 (72 + 20 * r + 17) i = 0 ∨ σ.1 (72 + 20 * r + 17) i = 1) ∧ (σ.1 (72 + 20 * r + 18) i = 0 ∨ σ.1 (72 + 20 * r + 18) i = 1)) : Sp l w mX5_bringBack 3 0 [zf 5 70, zf 1 30] σ (zqv (none) (fun τ => zOK τ ∧ zSame (fun q => q = 70 ∨ (30 ≤ q ∧ q ≤ 49)) σ τ ∧ τ.1 70 1 = (σ.1 70 1 - 1) ∧ τ.1 70 2 = max (σ.1 70 2 - 1) 0 ∧ cpA σ τ (72 + 20 * (σ.1 70 1 - 1).toNat + 1) (30 + 1) ∧ cpC σ τ (72 + 20 * (σ.1 70 1 - 1).toNat + 12) (30 + 12))) := by
  obtain ⟨Q, hQ⟩ : ∃ Q : zQ, Q = (zqv (none) (fun τ => zOK τ ∧ zSame (fun q => q = 70 ∨ (30 ≤ q ∧ q ≤ 49)) σ τ ∧ τ.1 70 1 = (σ.1 70 1 - 1) ∧ τ.1 70 2 = max (σ.1 70 2 - 1) 0 ∧ cpA σ τ (72 + 20 * (σ.1 70 1 - 1).toNat + 1) (30 + 1) ∧ cpC σ τ (72 + 20 * (σ.1 70 1 - 1).toNat + 12) (30 + 12))) := ⟨_, rfl⟩
  rw [← hQ]
  refine zx_enter hfl (by decide) rfl 0 rfl ?_
  show zX l w mX5_bringBack (zMQ w 3 0 Q) 0 [zf 5 70, zf 1 30] [] 0 σ
  refine zx_aloadN dX5_bringBack_0 rfl rfl ?_
  refine zx_aloadN dX5_bringBack_1 rfl rfl ?_
  refine zy_getI fl_RX5_17 rfl dX5_bringBack_2 rfl ?_
  refine zx_if_le (tgt := 17) (by first | exact hz _ _ | assumption | exact zr_b _ | exact zcmp_r _ _ | (unfold zr at *; omega)) dX5_bringBack_5 (by decide) (fun h5 => ?_) (fun h5 => ?_)
  · exfalso; omega
  · refine zx_aloadN dX5_bringBack_8 rfl rfl ?_
    refine zy_getI fl_RX5_17 rfl dX5_bringBack_9 rfl ?_
    refine zx_iconst dX5_bringBack_12 ?_
    refine zx_isub dX5_bringBack_13 ?_
    refine zx_goto (tgt := 19) dX5_bringBack_14 (by decide) ?_
    refine zx_putI fl_RX5_17 rfl (Or.inl fp_5_1) dX5_bringBack_19 ?_
    refine zx_aloadN dX5_bringBack_22 rfl rfl ?_
    refine zx_aloadN dX5_bringBack_23 rfl rfl ?_
    refine zy_getI (v := σ.1 70 2) fl_RX5_21 rfl dX5_bringBack_24 (zput_i _ _ _ _ _ (by omega)) ?_
    refine zx_iconst dX5_bringBack_27 ?_
    refine zx_isub dX5_bringBack_28 ?_
    refine zx_iconst dX5_bringBack_29 ?_
    refine zx_max (by first | exact hz _ _ | assumption | exact zr_b _ | exact zcmp_r _ _ | (unfold zr at *; omega)) (by first | exact hz _ _ | assumption | exact zr_b _ | exact zcmp_r _ _ | (unfold zr at *; omega)) mw_RX5_35 (Nat.le_of_ble_eq_true rfl) ⟨Nat.le_of_ble_eq_true rfl, Nat.le_of_ble_eq_true rfl⟩ dX5_bringBack_30 ?_
    refine zx_putI fl_RX5_21 rfl (Or.inl fp_5_2) dX5_bringBack_33 ?_
    refine zx_aloadN dX5_bringBack_36 rfl rfl ?_
    refine zy_getI (v := (σ.1 70 1) - 1) fl_RX5_17 rfl dX5_bringBack_37 ((zput_i _ _ _ _ _ (by omega)).trans (zput_s _ _ _ _)) ?_
    refine zx_aloadN dX5_bringBack_40 rfl rfl ?_
    refine zy_getR (q' := 71) fl_RX5_13 rfl dX5_bringBack_41 rfl ?_
    refine zx_alenQ dX5_bringBack_44 ?_
    refine zx_icmp_ge (tgt := 73) (by first | exact hz _ _ | assumption | exact zr_b _ | exact zcmp_r _ _ | (unfold zr at *; omega)) (by first | exact hz _ _ | assumption | exact zr_b _ | exact zcmp_r _ _ | (unfold zr at *; omega)) dX5_bringBack_45 (by decide) (fun h45 => ?_) (fun h45 => ?_)
    · refine zx_vret rfl dX5_bringBack_73 ?_
      rw [hQ]
      refine ⟨rfl, ?_⟩
      first
      | (exfalso; omega)
      | (obtain ⟨z, s1, a, c⟩ := hr70
         have e : ∀ q : Nat, q ≠ 70 → ∀ i, (zput (zput σ 70 1 (σ.1 70 1 - 1)) 70 2 (max (σ.1 70 2 - 1) 0)).1 q i = σ.1 q i := fun q hq i => (zput_k _ _ _ _ _ (by omega)).trans (zput_k _ _ _ _ _ (by omega))
         refine ⟨z, ⟨fun q hq i => by have hq2 := hq; dsimp only at hq2; rw [s1.1 q (by dsimp only; omega)]; exact e q (by omega) i, s1.2⟩, ?_, ?_, ?_, ?_⟩
         · rw [s1.1 70 (by dsimp only; omega)]; exact (zput_i _ _ _ _ _ (by omega)).trans (zput_s _ _ _ _)
         · rw [s1.1 70 (by dsimp only; omega)]; exact zput_s _ _ _ _
         · exact ⟨⟨a.1.1.trans (e _ (by omega) _), a.1.2.1.trans (e _ (by omega) _), a.1.2.2.trans (e _ (by omega) _)⟩, fun j h1 h2 i hi => (a.2.1 j h1 h2 i hi).trans (e _ (by omega) _), fun j h1 h2 i hi => (a.2.2 j h1 h2 i hi).trans (e _ (by omega) _)⟩
         · exact ⟨c.1.trans (e _ (by omega) _), fun j h1 h2 i hi => (c.2 j h1 h2 i hi).trans (e _ (by omega) _)⟩)
    · refine zx_aloadN dX5_bringBack_48 rfl rfl ?_
      refine zy_getR (q' := 71) fl_RX5_13 rfl dX5_bringBack_49 rfl ?_
      refine zx_aloadN dX5_bringBack_52 rfl rfl ?_
      refine zy_getI (v := (σ.1 70 1) - 1) fl_RX5_17 rfl dX5_bringBack_53 ((zput_i _ _ _ _ _ (by omega)).trans (zput_s _ _ _ _)) ?_
      refine zy_aald (q' := 72 + 20 * (((σ.1 70 1) - 1).toNat)) dX5_bringBack_56 (by omega) (by omega) rfl ?_
      refine zx_ifnull dX5_bringBack_57 ?_
      refine zx_aloadN dX5_bringBack_60 rfl rfl ?_
      refine zx_aloadN dX5_bringBack_61 rfl rfl ?_
      refine zy_getR (q' := 71) fl_RX5_13 rfl dX5_bringBack_62 rfl ?_
      refine zx_aloadN dX5_bringBack_65 rfl rfl ?_
      refine zy_getI (v := (σ.1 70 1) - 1) fl_RX5_17 rfl dX5_bringBack_66 ((zput_i _ _ _ _ _ (by omega)).trans (zput_s _ _ _ _)) ?_
      refine zy_aald (q' := 72 + 20 * (((σ.1 70 1) - 1).toNat)) dX5_bringBack_69 (by omega) (by omega) rfl ?_
      refine zy_cvvR [zf 1 (72 + 20 * (((σ.1 70 1) - 1).toNat))] (sX1_copyFrom  hfl (zOK_put (zOK_put hz (by first | exact hz _ _ | assumption | exact zr_b _ | exact zcmp_r _ _ | (unfold zr at *; omega))) (by first | exact hz _ _ | assumption | exact zr_b _ | exact zcmp_r _ _ | (unfold zr at *; omega))) (by omega) (fun i hi => by have h := hB (σ.1 70 1 - 1).toNat (by omega) i hi; have e : ∀ q : Nat, 71 ≤ q → (zput (zput σ 70 1 (σ.1 70 1 - 1)) 70 2 (max (σ.1 70 2 - 1) 0)).1 q i = σ.1 q i := fun q hq => (zput_k _ _ _ _ _ (by omega)).trans (zput_k _ _ _ _ _ (by omega)); rw [e _ (by omega), e _ (by omega)]; exact h)) dX5_bringBack_70 (by decide) rfl cw_RX5_25 okX1_copyFrom rfl (Nat.le_of_ble_eq_true rfl) ⟨Nat.le_of_ble_eq_true rfl, Nat.le_of_ble_eq_true rfl, Nat.le_of_ble_eq_true rfl, Nat.le_of_ble_eq_true rfl⟩ (fun τ70 hr70 => ?_)
      have hz70 : zOK τ70 := hr70.1
      refine zx_vret rfl dX5_bringBack_73 ?_
      rw [hQ]
      refine ⟨rfl, ?_⟩
      first
      | (exfalso; omega)
      | (obtain ⟨z, s1, a, c⟩ := hr70
         have e : ∀ q : Nat, q ≠ 70 → ∀ i, (zput (zput σ 70 1 (σ.1 70 1 - 1)) 70 2 (max (σ.1 70 2 - 1) 0)).1 q i = σ.1 q i := fun q hq i => (zput_k _ _ _ _ _ (by omega)).trans (zput_k _ _ _ _ _ (by omega))
         refine ⟨z, ⟨fun q hq i => by have hq2 := hq; dsimp only at hq2; rw [s1.1 q (by dsimp only; omega)]; exact e q (by omega) i, s1.2⟩, ?_, ?_, ?_, ?_⟩
         · rw [s1.1 70 (by dsimp only; omega)]; exact (zput_i _ _ _ _ _ (by omega)).trans (zput_s _ _ _ _)
         · rw [s1.1 70 (by dsimp only; omega)]; exact zput_s _ _ _ _
         · exact ⟨⟨a.1.1.trans (e _ (by omega) _), a.1.2.1.trans (e _ (by omega) _), a.1.2.2.trans (e _ (by omega) _)⟩, fun j h1 h2 i hi => (a.2.1 j h1 h2 i hi).trans (e _ (by omega) _), fun j h1 h2 i hi => (a.2.2 j h1 h2 i hi).trans (e _ (by omega) _)⟩
         · exact ⟨c.1.trans (e _ (by omega) _), fun j h1 h2 i hi => (c.2 j h1 h2 i hi).trans (e _ (by omega) _)⟩)
set_option maxRecDepth 20000 in
set_option maxHeartbeats 2000000 in
theorem sX5_bringBack_0 {l : Launch} {w : zW} (hfl : l.stackTraces = false) {σ : zS}  (hz : zOK σ) (hN : 0 ≤ σ.1 70 1 ∧ σ.1 70 1 ≤ 8) (hN2 : σ.1 70 1 = 0) (hC : 0 ≤ σ.1 70 2 ∧ σ.1 70 2 ≤ 8) (hB : ∀ r : Nat, r < 9 → ∀ i, i < 40 → (σ.1 (72 + 20 * r + 17) i = 0 ∨ σ.1 (72 + 20 * r + 17) i = 1) ∧ (σ.1 (72 + 20 * r + 18) i = 0 ∨ σ.1 (72 + 20 * r + 18) i = 1)) : Sp l w mX5_bringBack 3 0 [zf 5 70, zf 1 30] σ (zqv (none) (fun τ => zOK τ ∧ zSame (fun q => q = 70 ∨ (30 ≤ q ∧ q ≤ 49)) σ τ ∧ τ.1 70 1 = 8 ∧ τ.1 70 2 = max (σ.1 70 2 - 1) 0 ∧ cpA σ τ (72 + 20 * 8 + 1) (30 + 1) ∧ cpC σ τ (72 + 20 * 8 + 12) (30 + 12))) := by
  obtain ⟨Q, hQ⟩ : ∃ Q : zQ, Q = (zqv (none) (fun τ => zOK τ ∧ zSame (fun q => q = 70 ∨ (30 ≤ q ∧ q ≤ 49)) σ τ ∧ τ.1 70 1 = 8 ∧ τ.1 70 2 = max (σ.1 70 2 - 1) 0 ∧ cpA σ τ (72 + 20 * 8 + 1) (30 + 1) ∧ cpC σ τ (72 + 20 * 8 + 12) (30 + 12))) := ⟨_, rfl⟩
  rw [← hQ]
  refine zx_enter hfl (by decide) rfl 0 rfl ?_
  show zX l w mX5_bringBack (zMQ w 3 0 Q) 0 [zf 5 70, zf 1 30] [] 0 σ
  refine zx_aloadN dX5_bringBack_0 rfl rfl ?_
  refine zx_aloadN dX5_bringBack_1 rfl rfl ?_
  refine zy_getI fl_RX5_17 rfl dX5_bringBack_2 rfl ?_
  refine zx_if_le (tgt := 17) (by first | exact hz _ _ | assumption | exact zr_b _ | exact zcmp_r _ _ | (unfold zr at *; omega)) dX5_bringBack_5 (by decide) (fun h5 => ?_) (fun h5 => ?_)
  · refine zx_bipush dX5_bringBack_17 rfl ?_
    refine zx_putI fl_RX5_17 rfl (Or.inl fp_5_1) dX5_bringBack_19 ?_
    refine zx_aloadN dX5_bringBack_22 rfl rfl ?_
    refine zx_aloadN dX5_bringBack_23 rfl rfl ?_
    refine zy_getI (v := σ.1 70 2) fl_RX5_21 rfl dX5_bringBack_24 (zput_i _ _ _ _ _ (by omega)) ?_
    refine zx_iconst dX5_bringBack_27 ?_
    refine zx_isub dX5_bringBack_28 ?_
    refine zx_iconst dX5_bringBack_29 ?_
    refine zx_max (by first | exact hz _ _ | assumption | exact zr_b _ | exact zcmp_r _ _ | (unfold zr at *; omega)) (by first | exact hz _ _ | assumption | exact zr_b _ | exact zcmp_r _ _ | (unfold zr at *; omega)) mw_RX5_35 (Nat.le_of_ble_eq_true rfl) ⟨Nat.le_of_ble_eq_true rfl, Nat.le_of_ble_eq_true rfl⟩ dX5_bringBack_30 ?_
    refine zx_putI fl_RX5_21 rfl (Or.inl fp_5_2) dX5_bringBack_33 ?_
    refine zx_aloadN dX5_bringBack_36 rfl rfl ?_
    refine zy_getI (v := 8) fl_RX5_17 rfl dX5_bringBack_37 ((zput_i _ _ _ _ _ (by omega)).trans (zput_s _ _ _ _)) ?_
    refine zx_aloadN dX5_bringBack_40 rfl rfl ?_
    refine zy_getR (q' := 71) fl_RX5_13 rfl dX5_bringBack_41 rfl ?_
    refine zx_alenQ dX5_bringBack_44 ?_
    refine zx_icmp_ge (tgt := 73) (by first | exact hz _ _ | assumption | exact zr_b _ | exact zcmp_r _ _ | (unfold zr at *; omega)) (by first | exact hz _ _ | assumption | exact zr_b _ | exact zcmp_r _ _ | (unfold zr at *; omega)) dX5_bringBack_45 (by decide) (fun h45 => ?_) (fun h45 => ?_)
    · exact absurd h45 (by decide)
    · refine zx_aloadN dX5_bringBack_48 rfl rfl ?_
      refine zy_getR (q' := 71) fl_RX5_13 rfl dX5_bringBack_49 rfl ?_
      refine zx_aloadN dX5_bringBack_52 rfl rfl ?_
      refine zy_getI (v := 8) fl_RX5_17 rfl dX5_bringBack_53 ((zput_i _ _ _ _ _ (by omega)).trans (zput_s _ _ _ _)) ?_
      refine zy_aald (q' := 72 + 20 * 8) dX5_bringBack_56 (by omega) (by omega) rfl ?_
      refine zx_ifnull dX5_bringBack_57 ?_
      refine zx_aloadN dX5_bringBack_60 rfl rfl ?_
      refine zx_aloadN dX5_bringBack_61 rfl rfl ?_
      refine zy_getR (q' := 71) fl_RX5_13 rfl dX5_bringBack_62 rfl ?_
      refine zx_aloadN dX5_bringBack_65 rfl rfl ?_
      refine zy_getI (v := 8) fl_RX5_17 rfl dX5_bringBack_66 ((zput_i _ _ _ _ _ (by omega)).trans (zput_s _ _ _ _)) ?_
      refine zy_aald (q' := 72 + 20 * 8) dX5_bringBack_69 (by omega) (by omega) rfl ?_
      refine zy_cvvR [zf 1 (72 + 20 * 8)] (sX1_copyFrom  hfl (zOK_put (zOK_put hz (by unfold zr; omega)) (by first | exact hz _ _ | assumption | exact zr_b _ | exact zcmp_r _ _ | (unfold zr at *; omega))) (by omega) (fun i hi => by have h := hB 8 (by omega) i hi; have e : ∀ q : Nat, 71 ≤ q → (zput (zput σ 70 1 8) 70 2 (max (σ.1 70 2 - 1) 0)).1 q i = σ.1 q i := fun q hq => (zput_k _ _ _ _ _ (by omega)).trans (zput_k _ _ _ _ _ (by omega)); rw [e _ (by omega), e _ (by omega)]; exact h)) dX5_bringBack_70 (by decide) rfl cw_RX5_25 okX1_copyFrom rfl (Nat.le_of_ble_eq_true rfl) ⟨Nat.le_of_ble_eq_true rfl, Nat.le_of_ble_eq_true rfl, Nat.le_of_ble_eq_true rfl, Nat.le_of_ble_eq_true rfl⟩ (fun τ70 hr70 => ?_)
      have hz70 : zOK τ70 := hr70.1
      refine zx_vret rfl dX5_bringBack_73 ?_
      rw [hQ]
      refine ⟨rfl, ?_⟩
      first
      | (exfalso; omega)
      | (obtain ⟨z, s1, a, c⟩ := hr70
         have e : ∀ q : Nat, q ≠ 70 → ∀ i, (zput (zput σ 70 1 8) 70 2 (max (σ.1 70 2 - 1) 0)).1 q i = σ.1 q i := fun q hq i => (zput_k _ _ _ _ _ (by omega)).trans (zput_k _ _ _ _ _ (by omega))
         refine ⟨z, ⟨fun q hq i => by have hq2 := hq; dsimp only at hq2; rw [s1.1 q (by dsimp only; omega)]; exact e q (by omega) i, s1.2⟩, ?_, ?_, ?_, ?_⟩
         · rw [s1.1 70 (by dsimp only; omega)]; exact (zput_i _ _ _ _ _ (by omega)).trans (zput_s _ _ _ _)
         · rw [s1.1 70 (by dsimp only; omega)]; exact zput_s _ _ _ _
         · exact ⟨⟨a.1.1.trans (e _ (by omega) _), a.1.2.1.trans (e _ (by omega) _), a.1.2.2.trans (e _ (by omega) _)⟩, fun j h1 h2 i hi => (a.2.1 j h1 h2 i hi).trans (e _ (by omega) _), fun j h1 h2 i hi => (a.2.2 j h1 h2 i hi).trans (e _ (by omega) _)⟩
         · exact ⟨c.1.trans (e _ (by omega) _), fun j h1 h2 i hi => (c.2 j h1 h2 i hi).trans (e _ (by omega) _)⟩)
  · exfalso; omega

