abbrev mX10_keeps : zM := (yX10_keeps, cX10_keeps, 3, none, [])
theorem okX10_keeps : zMok mX10_keeps 1 := ⟨by decide, by decide, by decide +kernel⟩
theorem dX10_keeps_0 : decode cX10_keeps 0 = .ok (.aload_n 0, 1) := by decide +kernel
theorem dX10_keeps_1 : decode cX10_keeps 1 = .ok (.getfield 348, 3) := by decide +kernel
theorem fl_RX10_348 : zFl RX10 348 10 5 := ⟨RX10, TX10, 28, rfl, by decide, zmem1 1658 (by decide +kernel) rfl, rfl⟩
theorem dX10_keeps_4 : decode cX10_keeps 4 = .ok (.bipush 8, 2) := by decide +kernel
theorem dX10_keeps_6 : decode cX10_keeps 6 = .ok (.if_icmp .ne 44, 3) := by decide +kernel
theorem dX10_keeps_50 : decode cX10_keeps 50 = .ok (.aload_n 1, 1) := by decide +kernel
theorem dX10_keeps_51 : decode cX10_keeps 51 = .ok (.iconst 0, 1) := by decide +kernel
theorem dX10_keeps_52 : decode cX10_keeps 52 = .ok (.aload_n 0, 1) := by decide +kernel
theorem dX10_keeps_53 : decode cX10_keeps 53 = .ok (.getfield 22, 3) := by decide +kernel
theorem fl_RX10_22 : zFl RX10 22 10 4 := ⟨RX10, TX10, 28, rfl, by decide, zmem1 1657 (by decide +kernel) rfl, rfl⟩
theorem dX10_keeps_56 : decode cX10_keeps 56 = .ok (.sipush 380, 3) := by decide +kernel
theorem dX10_keeps_59 : decode cX10_keeps 59 = .ok (.aload_n 0, 1) := by decide +kernel
theorem dX10_keeps_60 : decode cX10_keeps 60 = .ok (.getfield 348, 3) := by decide +kernel
theorem dX10_keeps_63 : decode cX10_keeps 63 = .ok (.imul, 1) := by decide +kernel
theorem dX10_keeps_64 : decode cX10_keeps 64 = .ok (.invokestatic 70, 3) := by decide +kernel
theorem dX10_keeps_67 : decode cX10_keeps 67 = .ok (.aload_n 0, 1) := by decide +kernel
theorem dX10_keeps_68 : decode cX10_keeps 68 = .ok (.dup, 1) := by decide +kernel
theorem dX10_keeps_69 : decode cX10_keeps 69 = .ok (.getfield 348, 3) := by decide +kernel
theorem dX10_keeps_72 : decode cX10_keeps 72 = .ok (.iconst 1, 1) := by decide +kernel
theorem dX10_keeps_73 : decode cX10_keeps 73 = .ok (.iadd, 1) := by decide +kernel
theorem dX10_keeps_74 : decode cX10_keeps 74 = .ok (.putfield 348, 3) := by decide +kernel
theorem fp_10_5 : zFi 10 5 "I" := ⟨RX10, TX10, 28, rfl, rfl, rfl⟩
theorem dX10_keeps_77 : decode cX10_keeps 77 = .ok (.return_, 1) := by decide +kernel
theorem dX10_keeps_9 : decode cX10_keeps 9 = .ok (.iconst 0, 1) := by decide +kernel
theorem dX10_keeps_10 : decode cX10_keeps 10 = .ok (.istore_n 2, 1) := by decide +kernel
theorem dX10_keeps_11 : decode cX10_keeps 11 = .ok (.iload_n 2, 1) := by decide +kernel
theorem dX10_keeps_12 : decode cX10_keeps 12 = .ok (.sipush 2660, 3) := by decide +kernel
theorem dX10_keeps_15 : decode cX10_keeps 15 = .ok (.if_icmp .ge 25, 3) := by decide +kernel
theorem dX10_keeps_40 : decode cX10_keeps 40 = .ok (.aload_n 0, 1) := by decide +kernel
theorem dX10_keeps_41 : decode cX10_keeps 41 = .ok (.dup, 1) := by decide +kernel
theorem dX10_keeps_42 : decode cX10_keeps 42 = .ok (.getfield 348, 3) := by decide +kernel
theorem dX10_keeps_45 : decode cX10_keeps 45 = .ok (.iconst 1, 1) := by decide +kernel
theorem dX10_keeps_46 : decode cX10_keeps 46 = .ok (.isub, 1) := by decide +kernel
theorem dX10_keeps_47 : decode cX10_keeps 47 = .ok (.putfield 348, 3) := by decide +kernel
theorem dX10_keeps_18 : decode cX10_keeps 18 = .ok (.aload_n 0, 1) := by decide +kernel
theorem dX10_keeps_19 : decode cX10_keeps 19 = .ok (.getfield 22, 3) := by decide +kernel
theorem dX10_keeps_22 : decode cX10_keeps 22 = .ok (.iload_n 2, 1) := by decide +kernel
theorem dX10_keeps_23 : decode cX10_keeps 23 = .ok (.aload_n 0, 1) := by decide +kernel
theorem dX10_keeps_24 : decode cX10_keeps 24 = .ok (.getfield 22, 3) := by decide +kernel
theorem dX10_keeps_27 : decode cX10_keeps 27 = .ok (.iload_n 2, 1) := by decide +kernel
theorem dX10_keeps_28 : decode cX10_keeps 28 = .ok (.sipush 380, 3) := by decide +kernel
theorem dX10_keeps_31 : decode cX10_keeps 31 = .ok (.iadd, 1) := by decide +kernel
theorem dX10_keeps_32 : decode cX10_keeps 32 = .ok (.iaload, 1) := by decide +kernel
theorem dX10_keeps_33 : decode cX10_keeps 33 = .ok (.iastore, 1) := by decide +kernel
theorem dX10_keeps_34 : decode cX10_keeps 34 = .ok (.iinc 2 1, 3) := by decide +kernel
theorem dX10_keeps_37 : decode cX10_keeps 37 = .ok (.goto (-26), 3) := by decide +kernel
abbrev mX10_tried : zM := (yX10_tried, cX10_tried, 2, (some .boolean), [])
theorem okX10_tried : zMok mX10_tried 1 := ⟨by decide, by decide, by decide +kernel⟩
theorem dX10_tried_0 : decode cX10_tried 0 = .ok (.iload_n 1, 1) := by decide +kernel
theorem dX10_tried_1 : decode cX10_tried 1 = .ok (.ifCond .eq 16, 3) := by decide +kernel
theorem dX10_tried_17 : decode cX10_tried 17 = .ok (.iload_n 1, 1) := by decide +kernel
theorem dX10_tried_18 : decode cX10_tried 18 = .ok (.ireturn, 1) := by decide +kernel
theorem dX10_tried_4 : decode cX10_tried 4 = .ok (.aload_n 0, 1) := by decide +kernel
theorem dX10_tried_5 : decode cX10_tried 5 = .ok (.getfield 7, 3) := by decide +kernel
theorem dX10_tried_8 : decode cX10_tried 8 = .ok (.iconst 0, 1) := by decide +kernel
theorem dX10_tried_9 : decode cX10_tried 9 = .ok (.aload_n 0, 1) := by decide +kernel
theorem dX10_tried_10 : decode cX10_tried 10 = .ok (.getfield 16, 3) := by decide +kernel
theorem fl_RX10_16 : zFl RX10 16 10 2 := ⟨RX10, TX10, 28, rfl, by decide, zmem1 1655 (by decide +kernel) rfl, rfl⟩
theorem dX10_tried_13 : decode cX10_tried 13 = .ok (.iconst 0, 1) := by decide +kernel
theorem dX10_tried_14 : decode cX10_tried 14 = .ok (.invokestatic 70, 3) := by decide +kernel
abbrev mX10_done : zM := (yX10_done, cX10_done, 2, (some .int), [])
theorem okX10_done : zMok mX10_done 1 := ⟨by decide, by decide, by decide +kernel⟩
theorem dX10_done_0 : decode cX10_done 0 = .ok (.aload_n 0, 1) := by decide +kernel
theorem dX10_done_1 : decode cX10_done 1 = .ok (.aload_n 0, 1) := by decide +kernel
theorem dX10_done_2 : decode cX10_done 2 = .ok (.getfield 16, 3) := by decide +kernel
theorem dX10_done_5 : decode cX10_done 5 = .ok (.invokevirtual 390, 3) := by decide +kernel
theorem cw_RX10_390 : zCwV RX10 390 mX10_keeps := zall [1788, 1790, 57, 128, 1791] (by decide +kernel) (by decide +kernel)
theorem dX10_done_8 : decode cX10_done 8 = .ok (.aload_n 0, 1) := by decide +kernel
theorem dX10_done_9 : decode cX10_done 9 = .ok (.getfield 195, 3) := by decide +kernel
theorem fl_RX10_195 : zFl RX10 195 10 14 := ⟨RX10, TX10, 28, rfl, by decide, zmem1 1667 (by decide +kernel) rfl, rfl⟩
theorem dX10_done_12 : decode cX10_done 12 = .ok (.ireturn, 1) := by decide +kernel
abbrev mX10_clueComes : zM := (yX10_clueComes, cX10_clueComes, 6, none, [])
theorem okX10_clueComes : zMok mX10_clueComes 4 := ⟨by decide, by decide, by decide +kernel⟩
theorem dX10_clueComes_0 : decode cX10_clueComes 0 = .ok (.aload_n 0, 1) := by decide +kernel
theorem dX10_clueComes_1 : decode cX10_clueComes 1 = .ok (.getfield 7, 3) := by decide +kernel
theorem dX10_clueComes_4 : decode cX10_clueComes 4 = .ok (.iconst 3, 1) := by decide +kernel
theorem dX10_clueComes_5 : decode cX10_clueComes 5 = .ok (.iaload, 1) := by decide +kernel
theorem dX10_clueComes_6 : decode cX10_clueComes 6 = .ok (.istore 5, 2) := by decide +kernel
theorem dX10_clueComes_8 : decode cX10_clueComes 8 = .ok (.aload_n 0, 1) := by decide +kernel
theorem dX10_clueComes_9 : decode cX10_clueComes 9 = .ok (.iload 5, 2) := by decide +kernel
theorem dX10_clueComes_11 : decode cX10_clueComes 11 = .ok (.iconst 0, 1) := by decide +kernel
theorem dX10_clueComes_12 : decode cX10_clueComes 12 = .ok (.iload_n 1, 1) := by decide +kernel
theorem dX10_clueComes_13 : decode cX10_clueComes 13 = .ok (.invokevirtual 175, 3) := by decide +kernel
theorem dX10_clueComes_16 : decode cX10_clueComes 16 = .ok (.aload_n 0, 1) := by decide +kernel
theorem dX10_clueComes_17 : decode cX10_clueComes 17 = .ok (.iload 5, 2) := by decide +kernel
theorem dX10_clueComes_19 : decode cX10_clueComes 19 = .ok (.iconst 1, 1) := by decide +kernel
theorem dX10_clueComes_20 : decode cX10_clueComes 20 = .ok (.iload_n 2, 1) := by decide +kernel
theorem dX10_clueComes_21 : decode cX10_clueComes 21 = .ok (.invokevirtual 175, 3) := by decide +kernel
theorem dX10_clueComes_24 : decode cX10_clueComes 24 = .ok (.aload_n 0, 1) := by decide +kernel
theorem dX10_clueComes_25 : decode cX10_clueComes 25 = .ok (.iload 5, 2) := by decide +kernel
theorem dX10_clueComes_27 : decode cX10_clueComes 27 = .ok (.iconst 2, 1) := by decide +kernel
theorem dX10_clueComes_28 : decode cX10_clueComes 28 = .ok (.iload_n 3, 1) := by decide +kernel
theorem dX10_clueComes_29 : decode cX10_clueComes 29 = .ok (.invokevirtual 175, 3) := by decide +kernel
theorem dX10_clueComes_32 : decode cX10_clueComes 32 = .ok (.aload_n 0, 1) := by decide +kernel
theorem dX10_clueComes_33 : decode cX10_clueComes 33 = .ok (.iload 5, 2) := by decide +kernel
theorem dX10_clueComes_35 : decode cX10_clueComes 35 = .ok (.iconst 3, 1) := by decide +kernel
theorem dX10_clueComes_36 : decode cX10_clueComes 36 = .ok (.iload 4, 2) := by decide +kernel
theorem dX10_clueComes_38 : decode cX10_clueComes 38 = .ok (.invokevirtual 175, 3) := by decide +kernel
theorem dX10_clueComes_41 : decode cX10_clueComes 41 = .ok (.aload_n 0, 1) := by decide +kernel
theorem dX10_clueComes_42 : decode cX10_clueComes 42 = .ok (.iload 5, 2) := by decide +kernel
theorem dX10_clueComes_44 : decode cX10_clueComes 44 = .ok (.iconst 4, 1) := by decide +kernel
theorem dX10_clueComes_45 : decode cX10_clueComes 45 = .ok (.iconst 0, 1) := by decide +kernel
theorem dX10_clueComes_46 : decode cX10_clueComes 46 = .ok (.invokevirtual 175, 3) := by decide +kernel
theorem dX10_clueComes_49 : decode cX10_clueComes 49 = .ok (.aload_n 0, 1) := by decide +kernel
theorem dX10_clueComes_50 : decode cX10_clueComes 50 = .ok (.iload 5, 2) := by decide +kernel
theorem dX10_clueComes_52 : decode cX10_clueComes 52 = .ok (.iconst 5, 1) := by decide +kernel
theorem dX10_clueComes_53 : decode cX10_clueComes 53 = .ok (.iconst 0, 1) := by decide +kernel
theorem dX10_clueComes_54 : decode cX10_clueComes 54 = .ok (.invokevirtual 175, 3) := by decide +kernel
theorem dX10_clueComes_57 : decode cX10_clueComes 57 = .ok (.aload_n 0, 1) := by decide +kernel
theorem dX10_clueComes_58 : decode cX10_clueComes 58 = .ok (.getfield 7, 3) := by decide +kernel
theorem dX10_clueComes_61 : decode cX10_clueComes 61 = .ok (.iconst 3, 1) := by decide +kernel
theorem dX10_clueComes_62 : decode cX10_clueComes 62 = .ok (.dup2, 1) := by decide +kernel
theorem dX10_clueComes_63 : decode cX10_clueComes 63 = .ok (.iaload, 1) := by decide +kernel
theorem dX10_clueComes_64 : decode cX10_clueComes 64 = .ok (.iconst 1, 1) := by decide +kernel
theorem dX10_clueComes_65 : decode cX10_clueComes 65 = .ok (.iadd, 1) := by decide +kernel
theorem dX10_clueComes_66 : decode cX10_clueComes 66 = .ok (.iastore, 1) := by decide +kernel
theorem dX10_clueComes_67 : decode cX10_clueComes 67 = .ok (.aload_n 0, 1) := by decide +kernel
theorem dX10_clueComes_68 : decode cX10_clueComes 68 = .ok (.iload 5, 2) := by decide +kernel
theorem dX10_clueComes_70 : decode cX10_clueComes 70 = .ok (.putfield 195, 3) := by decide +kernel
theorem fp_10_14 : zFi 10 14 "I" := ⟨RX10, TX10, 28, rfl, rfl, rfl⟩
theorem dX10_clueComes_73 : decode cX10_clueComes 73 = .ok (.return_, 1) := by decide +kernel
abbrev mX10_clueNow : zM := (yX10_clueNow, cX10_clueNow, 5, (some .boolean), [])
theorem okX10_clueNow : zMok mX10_clueNow 4 := ⟨by decide, by decide, by decide +kernel⟩
theorem dX10_clueNow_0 : decode cX10_clueNow 0 = .ok (.aload_n 0, 1) := by decide +kernel
theorem dX10_clueNow_1 : decode cX10_clueNow 1 = .ok (.getfield 7, 3) := by decide +kernel
theorem dX10_clueNow_4 : decode cX10_clueNow 4 = .ok (.iconst 3, 1) := by decide +kernel
theorem dX10_clueNow_5 : decode cX10_clueNow 5 = .ok (.iaload, 1) := by decide +kernel
theorem dX10_clueNow_6 : decode cX10_clueNow 6 = .ok (.bipush 40, 2) := by decide +kernel
theorem dX10_clueNow_8 : decode cX10_clueNow 8 = .ok (.if_icmp .ne 5, 3) := by decide +kernel
theorem dX10_clueNow_11 : decode cX10_clueNow 11 = .ok (.iconst 0, 1) := by decide +kernel
theorem dX10_clueNow_12 : decode cX10_clueNow 12 = .ok (.ireturn, 1) := by decide +kernel
theorem dX10_clueNow_13 : decode cX10_clueNow 13 = .ok (.aload_n 0, 1) := by decide +kernel
theorem dX10_clueNow_14 : decode cX10_clueNow 14 = .ok (.iload_n 1, 1) := by decide +kernel
theorem dX10_clueNow_15 : decode cX10_clueNow 15 = .ok (.iload_n 2, 1) := by decide +kernel
theorem dX10_clueNow_16 : decode cX10_clueNow 16 = .ok (.iload_n 3, 1) := by decide +kernel
theorem dX10_clueNow_17 : decode cX10_clueNow 17 = .ok (.iload 4, 2) := by decide +kernel
theorem dX10_clueNow_19 : decode cX10_clueNow 19 = .ok (.invokevirtual 198, 3) := by decide +kernel
theorem cw_RX10_198 : zCwV RX10 198 mX10_clueComes := zall [1637, 1639, 48, 128, 1640] (by decide +kernel) (by decide +kernel)
theorem dX10_clueNow_22 : decode cX10_clueNow 22 = .ok (.iconst 1, 1) := by decide +kernel
theorem dX10_clueNow_23 : decode cX10_clueNow 23 = .ok (.ireturn, 1) := by decide +kernel
abbrev mX10_readNow : zM := (yX10_readNow, cX10_readNow, 2, (some .boolean), [])
theorem okX10_readNow : zMok mX10_readNow 1 := ⟨by decide, by decide, by decide +kernel⟩
theorem dX10_readNow_0 : decode cX10_readNow 0 = .ok (.aload_n 0, 1) := by decide +kernel
theorem dX10_readNow_1 : decode cX10_readNow 1 = .ok (.aload_n 0, 1) := by decide +kernel
theorem dX10_readNow_2 : decode cX10_readNow 2 = .ok (.iload_n 1, 1) := by decide +kernel
theorem dX10_readNow_3 : decode cX10_readNow 3 = .ok (.invokevirtual 202, 3) := by decide +kernel
theorem dX10_readNow_6 : decode cX10_readNow 6 = .ok (.putfield 195, 3) := by decide +kernel
theorem dX10_readNow_9 : decode cX10_readNow 9 = .ok (.iconst 1, 1) := by decide +kernel
theorem dX10_readNow_10 : decode cX10_readNow 10 = .ok (.ireturn, 1) := by decide +kernel
abbrev mX10_asideNow : zM := (yX10_asideNow, cX10_asideNow, 3, (some .boolean), [])
theorem okX10_asideNow : zMok mX10_asideNow 2 := ⟨by decide, by decide, by decide +kernel⟩
theorem dX10_asideNow_0 : decode cX10_asideNow 0 = .ok (.aload_n 0, 1) := by decide +kernel
theorem dX10_asideNow_1 : decode cX10_asideNow 1 = .ok (.iload_n 1, 1) := by decide +kernel
theorem dX10_asideNow_2 : decode cX10_asideNow 2 = .ok (.invokevirtual 205, 3) := by decide +kernel
theorem dX10_asideNow_5 : decode cX10_asideNow 5 = .ok (.ifCond .eq 13, 3) := by decide +kernel
theorem dX10_asideNow_18 : decode cX10_asideNow 18 = .ok (.iconst 0, 1) := by decide +kernel
theorem dX10_asideNow_19 : decode cX10_asideNow 19 = .ok (.ireturn, 1) := by decide +kernel
theorem dX10_asideNow_8 : decode cX10_asideNow 8 = .ok (.aload_n 0, 1) := by decide +kernel
theorem dX10_asideNow_9 : decode cX10_asideNow 9 = .ok (.iload_n 1, 1) := by decide +kernel
theorem dX10_asideNow_10 : decode cX10_asideNow 10 = .ok (.iconst 5, 1) := by decide +kernel
theorem dX10_asideNow_11 : decode cX10_asideNow 11 = .ok (.invokevirtual 102, 3) := by decide +kernel
theorem dX10_asideNow_14 : decode cX10_asideNow 14 = .ok (.iload_n 2, 1) := by decide +kernel
theorem dX10_asideNow_15 : decode cX10_asideNow 15 = .ok (.if_icmp .ne 5, 3) := by decide +kernel
theorem dX10_asideNow_20 : decode cX10_asideNow 20 = .ok (.aload_n 0, 1) := by decide +kernel
theorem dX10_asideNow_21 : decode cX10_asideNow 21 = .ok (.iload_n 1, 1) := by decide +kernel
theorem dX10_asideNow_22 : decode cX10_asideNow 22 = .ok (.iconst 5, 1) := by decide +kernel
theorem dX10_asideNow_23 : decode cX10_asideNow 23 = .ok (.iload_n 2, 1) := by decide +kernel
theorem dX10_asideNow_24 : decode cX10_asideNow 24 = .ok (.invokevirtual 175, 3) := by decide +kernel
theorem dX10_asideNow_27 : decode cX10_asideNow 27 = .ok (.aload_n 0, 1) := by decide +kernel
theorem dX10_asideNow_28 : decode cX10_asideNow 28 = .ok (.aload_n 0, 1) := by decide +kernel
theorem dX10_asideNow_29 : decode cX10_asideNow 29 = .ok (.invokevirtual 208, 3) := by decide +kernel
theorem dX10_asideNow_32 : decode cX10_asideNow 32 = .ok (.putfield 195, 3) := by decide +kernel
theorem dX10_asideNow_35 : decode cX10_asideNow 35 = .ok (.iconst 1, 1) := by decide +kernel
theorem dX10_asideNow_36 : decode cX10_asideNow 36 = .ok (.ireturn, 1) := by decide +kernel
abbrev mX10_weighNow : zM := (yX10_weighNow, cX10_weighNow, 3, (some .boolean), [])
theorem okX10_weighNow : zMok mX10_weighNow 2 := ⟨by decide, by decide, by decide +kernel⟩
theorem dX10_weighNow_0 : decode cX10_weighNow 0 = .ok (.aload_n 0, 1) := by decide +kernel
theorem dX10_weighNow_1 : decode cX10_weighNow 1 = .ok (.iload_n 1, 1) := by decide +kernel
theorem dX10_weighNow_2 : decode cX10_weighNow 2 = .ok (.invokevirtual 205, 3) := by decide +kernel
theorem dX10_weighNow_5 : decode cX10_weighNow 5 = .ok (.ifCond .ne 5, 3) := by decide +kernel
theorem dX10_weighNow_8 : decode cX10_weighNow 8 = .ok (.iconst 0, 1) := by decide +kernel
theorem dX10_weighNow_9 : decode cX10_weighNow 9 = .ok (.ireturn, 1) := by decide +kernel
theorem dX10_weighNow_10 : decode cX10_weighNow 10 = .ok (.aload_n 0, 1) := by decide +kernel
theorem dX10_weighNow_11 : decode cX10_weighNow 11 = .ok (.aload_n 0, 1) := by decide +kernel
theorem dX10_weighNow_12 : decode cX10_weighNow 12 = .ok (.iload_n 1, 1) := by decide +kernel
theorem dX10_weighNow_13 : decode cX10_weighNow 13 = .ok (.iconst 3, 1) := by decide +kernel
theorem dX10_weighNow_14 : decode cX10_weighNow 14 = .ok (.invokevirtual 102, 3) := by decide +kernel
theorem dX10_weighNow_17 : decode cX10_weighNow 17 = .ok (.putfield 195, 3) := by decide +kernel
theorem dX10_weighNow_20 : decode cX10_weighNow 20 = .ok (.aload_n 0, 1) := by decide +kernel
theorem dX10_weighNow_21 : decode cX10_weighNow 21 = .ok (.iload_n 1, 1) := by decide +kernel
theorem dX10_weighNow_22 : decode cX10_weighNow 22 = .ok (.iconst 3, 1) := by decide +kernel
theorem dX10_weighNow_23 : decode cX10_weighNow 23 = .ok (.iload_n 2, 1) := by decide +kernel
theorem dX10_weighNow_24 : decode cX10_weighNow 24 = .ok (.invokevirtual 175, 3) := by decide +kernel
theorem dX10_weighNow_27 : decode cX10_weighNow 27 = .ok (.iconst 1, 1) := by decide +kernel
theorem dX10_weighNow_28 : decode cX10_weighNow 28 = .ok (.ireturn, 1) := by decide +kernel
abbrev mX10_gets : zM := (yX10_gets, cX10_gets, 4, none, [])
theorem okX10_gets : zMok mX10_gets 3 := ⟨by decide, by decide, by decide +kernel⟩
theorem dX10_gets_0 : decode cX10_gets 0 = .ok (.aload_n 0, 1) := by decide +kernel
theorem dX10_gets_1 : decode cX10_gets 1 = .ok (.iload_n 1, 1) := by decide +kernel
theorem dX10_gets_2 : decode cX10_gets 2 = .ok (.iload_n 2, 1) := by decide +kernel
theorem dX10_gets_3 : decode cX10_gets 3 = .ok (.aload_n 0, 1) := by decide +kernel
theorem dX10_gets_4 : decode cX10_gets 4 = .ok (.iload_n 1, 1) := by decide +kernel
theorem dX10_gets_5 : decode cX10_gets 5 = .ok (.iload_n 2, 1) := by decide +kernel
theorem dX10_gets_6 : decode cX10_gets 6 = .ok (.invokevirtual 82, 3) := by decide +kernel
theorem dX10_gets_9 : decode cX10_gets 9 = .ok (.iconst 1, 1) := by decide +kernel
theorem dX10_gets_10 : decode cX10_gets 10 = .ok (.iload_n 3, 1) := by decide +kernel
theorem dX10_gets_11 : decode cX10_gets 11 = .ok (.ishl, 1) := by decide +kernel
theorem dX10_gets_12 : decode cX10_gets 12 = .ok (.ior, 1) := by decide +kernel
theorem dX10_gets_13 : decode cX10_gets 13 = .ok (.invokevirtual 98, 3) := by decide +kernel
theorem cw_RX10_98 : zCwV RX10 98 mX10_putsPrinter := zall [1576, 1578, 35, 128, 1579] (by decide +kernel) (by decide +kernel)
theorem dX10_gets_16 : decode cX10_gets 16 = .ok (.return_, 1) := by decide +kernel
abbrev mX10_lendNow : zM := (yX10_lendNow, cX10_lendNow, 4, (some .boolean), [])
theorem okX10_lendNow : zMok mX10_lendNow 3 := ⟨by decide, by decide, by decide +kernel⟩
theorem dX10_lendNow_0 : decode cX10_lendNow 0 = .ok (.iload_n 1, 1) := by decide +kernel
theorem dX10_lendNow_1 : decode cX10_lendNow 1 = .ok (.iload_n 2, 1) := by decide +kernel
theorem dX10_lendNow_2 : decode cX10_lendNow 2 = .ok (.if_icmp .eq 12, 3) := by decide +kernel
theorem dX10_lendNow_14 : decode cX10_lendNow 14 = .ok (.iconst 0, 1) := by decide +kernel
theorem dX10_lendNow_15 : decode cX10_lendNow 15 = .ok (.ireturn, 1) := by decide +kernel
theorem dX10_lendNow_5 : decode cX10_lendNow 5 = .ok (.aload_n 0, 1) := by decide +kernel
theorem dX10_lendNow_6 : decode cX10_lendNow 6 = .ok (.iload_n 1, 1) := by decide +kernel
theorem dX10_lendNow_7 : decode cX10_lendNow 7 = .ok (.iload_n 3, 1) := by decide +kernel
theorem dX10_lendNow_8 : decode cX10_lendNow 8 = .ok (.invokevirtual 90, 3) := by decide +kernel
theorem dX10_lendNow_11 : decode cX10_lendNow 11 = .ok (.ifCond .ne 5, 3) := by decide +kernel
theorem dX10_lendNow_16 : decode cX10_lendNow 16 = .ok (.aload_n 0, 1) := by decide +kernel
theorem dX10_lendNow_17 : decode cX10_lendNow 17 = .ok (.iload_n 1, 1) := by decide +kernel
theorem dX10_lendNow_18 : decode cX10_lendNow 18 = .ok (.bipush 10, 2) := by decide +kernel
theorem dX10_lendNow_20 : decode cX10_lendNow 20 = .ok (.aload_n 0, 1) := by decide +kernel
theorem dX10_lendNow_21 : decode cX10_lendNow 21 = .ok (.iload_n 1, 1) := by decide +kernel
theorem dX10_lendNow_22 : decode cX10_lendNow 22 = .ok (.bipush 10, 2) := by decide +kernel
theorem dX10_lendNow_24 : decode cX10_lendNow 24 = .ok (.invokevirtual 82, 3) := by decide +kernel
theorem dX10_lendNow_27 : decode cX10_lendNow 27 = .ok (.iconst 1, 1) := by decide +kernel
theorem dX10_lendNow_28 : decode cX10_lendNow 28 = .ok (.iload_n 3, 1) := by decide +kernel
theorem dX10_lendNow_29 : decode cX10_lendNow 29 = .ok (.ishl, 1) := by decide +kernel
theorem dX10_lendNow_30 : decode cX10_lendNow 30 = .ok (.iconst (-1), 1) := by decide +kernel
theorem dX10_lendNow_31 : decode cX10_lendNow 31 = .ok (.ixor, 1) := by decide +kernel
theorem dX10_lendNow_32 : decode cX10_lendNow 32 = .ok (.iand, 1) := by decide +kernel
theorem dX10_lendNow_33 : decode cX10_lendNow 33 = .ok (.invokevirtual 98, 3) := by decide +kernel
theorem dX10_lendNow_36 : decode cX10_lendNow 36 = .ok (.aload_n 0, 1) := by decide +kernel
theorem dX10_lendNow_37 : decode cX10_lendNow 37 = .ok (.iload_n 2, 1) := by decide +kernel
theorem dX10_lendNow_38 : decode cX10_lendNow 38 = .ok (.bipush 10, 2) := by decide +kernel
theorem dX10_lendNow_40 : decode cX10_lendNow 40 = .ok (.iload_n 3, 1) := by decide +kernel
theorem dX10_lendNow_41 : decode cX10_lendNow 41 = .ok (.invokevirtual 211, 3) := by decide +kernel
theorem cw_RX10_211 : zCwV RX10 211 mX10_gets := zall [1603, 1605, 41, 128, 1606] (by decide +kernel) (by decide +kernel)
theorem dX10_lendNow_44 : decode cX10_lendNow 44 = .ok (.aload_n 0, 1) := by decide +kernel
theorem dX10_lendNow_45 : decode cX10_lendNow 45 = .ok (.aload_n 0, 1) := by decide +kernel
theorem dX10_lendNow_46 : decode cX10_lendNow 46 = .ok (.iload_n 3, 1) := by decide +kernel
theorem dX10_lendNow_47 : decode cX10_lendNow 47 = .ok (.invokevirtual 214, 3) := by decide +kernel
theorem dX10_lendNow_50 : decode cX10_lendNow 50 = .ok (.putfield 195, 3) := by decide +kernel
theorem dX10_lendNow_53 : decode cX10_lendNow 53 = .ok (.iconst 1, 1) := by decide +kernel
theorem dX10_lendNow_54 : decode cX10_lendNow 54 = .ok (.ireturn, 1) := by decide +kernel
abbrev mX10_cleanNow : zM := (yX10_cleanNow, cX10_cleanNow, 3, (some .boolean), [])
theorem okX10_cleanNow : zMok mX10_cleanNow 0 := ⟨by decide, by decide, by decide +kernel⟩
theorem dX10_cleanNow_0 : decode cX10_cleanNow 0 = .ok (.aload_n 0, 1) := by decide +kernel
theorem dX10_cleanNow_1 : decode cX10_cleanNow 1 = .ok (.invokevirtual 166, 3) := by decide +kernel
theorem dX10_cleanNow_4 : decode cX10_cleanNow 4 = .ok (.istore_n 1, 1) := by decide +kernel
theorem dX10_cleanNow_5 : decode cX10_cleanNow 5 = .ok (.aload_n 0, 1) := by decide +kernel
theorem dX10_cleanNow_6 : decode cX10_cleanNow 6 = .ok (.aload_n 0, 1) := by decide +kernel
theorem dX10_cleanNow_7 : decode cX10_cleanNow 7 = .ok (.iload_n 1, 1) := by decide +kernel
theorem dX10_cleanNow_8 : decode cX10_cleanNow 8 = .ok (.invokevirtual 217, 3) := by decide +kernel
theorem dX10_cleanNow_11 : decode cX10_cleanNow 11 = .ok (.putfield 195, 3) := by decide +kernel
theorem dX10_cleanNow_14 : decode cX10_cleanNow 14 = .ok (.iconst 0, 1) := by decide +kernel
theorem dX10_cleanNow_15 : decode cX10_cleanNow 15 = .ok (.istore_n 2, 1) := by decide +kernel
theorem dX10_cleanNow_16 : decode cX10_cleanNow 16 = .ok (.iload_n 2, 1) := by decide +kernel
theorem dX10_cleanNow_17 : decode cX10_cleanNow 17 = .ok (.aload_n 0, 1) := by decide +kernel
theorem dX10_cleanNow_18 : decode cX10_cleanNow 18 = .ok (.getfield 7, 3) := by decide +kernel
theorem dX10_cleanNow_21 : decode cX10_cleanNow 21 = .ok (.iconst 3, 1) := by decide +kernel
theorem dX10_cleanNow_22 : decode cX10_cleanNow 22 = .ok (.iaload, 1) := by decide +kernel
theorem dX10_cleanNow_23 : decode cX10_cleanNow 23 = .ok (.if_icmp .ge 25, 3) := by decide +kernel
theorem dX10_cleanNow_48 : decode cX10_cleanNow 48 = .ok (.iconst 1, 1) := by decide +kernel
theorem dX10_cleanNow_49 : decode cX10_cleanNow 49 = .ok (.ireturn, 1) := by decide +kernel
theorem dX10_cleanNow_26 : decode cX10_cleanNow 26 = .ok (.aload_n 0, 1) := by decide +kernel
theorem dX10_cleanNow_27 : decode cX10_cleanNow 27 = .ok (.iload_n 2, 1) := by decide +kernel
theorem dX10_cleanNow_28 : decode cX10_cleanNow 28 = .ok (.iload_n 1, 1) := by decide +kernel
theorem dX10_cleanNow_29 : decode cX10_cleanNow 29 = .ok (.invokevirtual 178, 3) := by decide +kernel
theorem dX10_cleanNow_32 : decode cX10_cleanNow 32 = .ok (.ifCond .eq 10, 3) := by decide +kernel
theorem dX10_cleanNow_42 : decode cX10_cleanNow 42 = .ok (.iinc 2 1, 3) := by decide +kernel
theorem dX10_cleanNow_45 : decode cX10_cleanNow 45 = .ok (.goto (-29), 3) := by decide +kernel
theorem dX10_cleanNow_35 : decode cX10_cleanNow 35 = .ok (.aload_n 0, 1) := by decide +kernel
theorem dX10_cleanNow_36 : decode cX10_cleanNow 36 = .ok (.iload_n 2, 1) := by decide +kernel
theorem dX10_cleanNow_37 : decode cX10_cleanNow 37 = .ok (.iconst 5, 1) := by decide +kernel
theorem dX10_cleanNow_38 : decode cX10_cleanNow 38 = .ok (.iconst 1, 1) := by decide +kernel
theorem dX10_cleanNow_39 : decode cX10_cleanNow 39 = .ok (.invokevirtual 175, 3) := by decide +kernel
/-! the other program's operations -/
def mA (k : Nat) : Prop := k = 262 ∨ k = 264 ∨ k = 266 ∨ k = 267 ∨ k = 268
def mF (i : Nat) : Prop := i = 5 ∨ i = 6 ∨ (9 ≤ i ∧ i ≤ 11) ∨ i = 13 ∨ i = 14
def MPu (σ τ : zS) (r : Nat → Int) : Prop := (0 ≤ τ.1 261 5 ∧ τ.1 261 5 ≤ 8) ∧ τ.1 261 5 = min (σ.1 261 5 + 1) 8 ∧ (∀ j, j < 380 → τ.1 266 (380 * (τ.1 261 5 - 1).toNat + j) = r j) ∧ ∀ i : Nat, ((i + 1 : Nat) : Int) < τ.1 261 5 → ∀ j, j < 380 → τ.1 266 (380 * (τ.1 261 5 - 2 - i).toNat + j) = σ.1 266 (380 * (σ.1 261 5 - 1 - i).toNat + j)
theorem mkeep {σ τ1 τ2 : zS} {q : Nat} (h5 : 0 ≤ σ.1 261 5 ∧ σ.1 261 5 ≤ 8) (m1 : mfr σ τ1 (fun k => k = 266) (fun i => i = 5)) (c : (σ.1 261 5 < 8 ∧ τ1.1 261 5 = σ.1 261 5 ∧ ∀ j, τ1.1 266 j = σ.1 266 j) ∨ (σ.1 261 5 = 8 ∧ τ1.1 261 5 = 7 ∧ ∀ j, j < 2660 → τ1.1 266 j = σ.1 266 (j + 380))) (hq : q ≠ 266) (hq2 : q ≠ 261) (cp : cpo τ1 τ2 q 0 266 (380 * (τ1.1 261 5).toNat) 380) :
    mfr σ (zput τ2 261 5 (τ2.1 261 5 + 1)) (fun k => k = 266) (fun i => i = 5) ∧ MPu σ (zput τ2 261 5 (τ2.1 261 5 + 1)) (σ.1 q) := by
  rw [cp.1 261 (by decide) 5]
  have e266 : ∀ j, (zput τ2 261 5 (τ1.1 261 5 + 1)).1 266 j = τ2.1 266 j := fun j => zput_k _ _ _ _ _ (by omega)
  have e5 : (zput τ2 261 5 (τ1.1 261 5 + 1)).1 261 5 = τ1.1 261 5 + 1 := zput_s _ _ _ _
  obtain ⟨c1, c2, c3, c4⟩ := cp
  have hb : 0 ≤ τ1.1 261 5 ∧ τ1.1 261 5 ≤ 7 := by rcases c with ⟨a, b, -⟩ | ⟨a, b, -⟩ <;> omega
  refine ⟨⟨fun k hk hk2 i => ?_, fun i hi => ?_, ?_⟩, ⟨by rw [e5]; omega, ?_, fun j hj => ?_, fun i hi j hj => ?_⟩⟩
  · rw [zput_k _ _ _ _ _ hk2, c1 k hk i]; exact m1.1 k hk hk2 i
  · rw [zput_i _ _ _ _ _ hi, c1 261 (by omega) i]; exact m1.2.1 i hi
  · exact c2.trans m1.2.2
  · rw [e5]; rcases c with ⟨a, b, -⟩ | ⟨a, b, -⟩ <;> omega
  · rw [e266, e5, show (τ1.1 261 5 + 1 - 1).toNat = (τ1.1 261 5).toNat by omega, c3 j hj, Nat.zero_add]
    exact m1.1 q (fun e => hq e) hq2 j
  · rw [e5] at hi
    rw [e266, e5, c4 _ (Or.inl (by omega))]
    rcases c with ⟨a, b, d⟩ | ⟨a, b, d⟩
    · have e : (τ1.1 261 5 + 1 - 2 - (i : Int)).toNat = (σ.1 261 5 - 1 - (i : Int)).toNat := by omega
      rw [d, e]
    · have e : 380 * (τ1.1 261 5 + 1 - 2 - (i : Int)).toNat + j + 380 = 380 * (σ.1 261 5 - 1 - (i : Int)).toNat + j := by omega
      rw [d _ (by omega), e]
theorem MPu_to {σ υ τ : zS} {r r' : Nat → Int} (h : MPu υ τ r') (e5 : υ.1 261 5 = σ.1 261 5) (e6 : ∀ j, υ.1 266 j = σ.1 266 j) (hr : ∀ j, j < 380 → r' j = r j) : MPu σ τ r := by
  obtain ⟨a, b, c, d⟩ := h
  refine ⟨a, by rw [b, e5], fun j hj => (c j hj).trans (hr j hj), fun i hi j hj => ?_⟩
  rw [d i hi j hj, e5, e6]
theorem Rel_ad {D : zBk} {r r' : Nat → Int} {pg kd vl wt : Int} (w : WF D) (h : Rel D r) (hK : D 12 0 < 40) (e : ∀ i, r' i = if i = 3 then D 12 0 + 1 else if i = 140 + 6 * (D 12 0).toNat then pg else if i = 140 + 6 * (D 12 0).toNat + 1 then kd else if i = 140 + 6 * (D 12 0).toNat + 2 then vl else if i = 140 + 6 * (D 12 0).toNat + 3 then wt else if i = 140 + 6 * (D 12 0).toNat + 4 then 0 else if i = 140 + 6 * (D 12 0).toNat + 5 then 0 else r i) : Rel (adB D pg kd vl wt) r' := by
  have hn := w.1
  unfold WFn at hn
  obtain ⟨⟨a1, a2, a3, a4⟩, b, m, d, f⟩ := h
  have g : ∀ o i, o < 12 → adB D pg kd vl wt o i = D o i := fun o i h1 => adB_a _ _ _ _ _ h1 _
  have lo : ∀ i, i ≠ 3 → i < 140 → r' i = r i := fun i h1 h2 => by
    rw [e i, if_neg h1, if_neg (by omega), if_neg (by omega), if_neg (by omega), if_neg (by omega), if_neg (by omega), if_neg (by omega)]
  refine ⟨⟨?_, ?_, ?_, ?_⟩, fun p hp => ?_, fun q hq => ?_, fun q hq => ?_, fun c hc o ho => ?_⟩
  · rw [lo 0 (by omega) (by omega), g _ _ (by omega)]; exact a1
  · rw [lo 1 (by omega) (by omega), g _ _ (by omega)]; exact a2
  · rw [lo 2 (by omega) (by omega), g _ _ (by omega)]; exact a3
  · rw [e 3, if_pos rfl, adB_k]
  · rw [g _ _ (by omega)] at hp
    obtain ⟨⟨n1, n2, n3⟩, n4⟩ := b p hp
    refine ⟨⟨?_, fun k hk => ?_, ?_⟩, fun o h1 h2 => ?_⟩
    · rw [lo _ (by omega) (by omega)]; exact n1
    · rw [lo _ (by omega) (by omega)] at hk
      rw [lo _ (by omega) (by omega)]; exact n2 k hk
    · rw [lo _ (by omega) (by omega), g _ _ (by omega), n3]
      have hz : ∀ (n : Nat), n ≤ 6 → pkF (fun k => r (4 + 12 * p + 1 + k)) n = pkF (fun k => r' (4 + 12 * p + 1 + k)) n := by
        intro n
        induction n with
        | zero => intro _; rfl
        | succ n ih => intro hn; rw [pkF, pkF, ih (by omega), lo _ (by omega) (by omega)]
      exact hz _ (by omega)
    · rw [lo _ (by omega) (by omega), g _ _ (by omega)]; exact n4 o h1 h2
  · rw [g _ _ (by omega)] at hq
    rw [lo _ (by omega) (by omega), lo _ (by omega) (by omega), g _ _ (by omega), g _ _ (by omega)]
    exact m q hq
  · rw [g _ _ (by omega)] at hq
    rw [lo _ (by omega) (by omega), lo _ (by omega) (by omega), g _ _ (by omega), g _ _ (by omega)]
    exact d q hq
  · rw [adB_k] at hc
    by_cases q : (c : Int) = D 12 0
    · have q2 : c = (D 12 0).toNat := by omega
      rw [adB_n _ _ _ _ _ ⟨by omega, by omega⟩ q, e, q2]
      rcases (by omega : o = 0 ∨ o = 1 ∨ o = 2 ∨ o = 3 ∨ o = 4 ∨ o = 5) with rfl | rfl | rfl | rfl | rfl | rfl
      · rw [if_neg (by omega), if_pos (by omega)]; rfl
      · rw [if_neg (by omega), if_neg (by omega), if_pos (by omega)]; rfl
      · rw [if_neg (by omega), if_neg (by omega), if_neg (by omega), if_pos (by omega)]; rfl
      · rw [if_neg (by omega), if_neg (by omega), if_neg (by omega), if_neg (by omega), if_pos (by omega)]; rfl
      · rw [if_neg (by omega), if_neg (by omega), if_neg (by omega), if_neg (by omega), if_neg (by omega), if_pos (by omega)]; rfl
      · rw [if_neg (by omega), if_neg (by omega), if_neg (by omega), if_neg (by omega), if_neg (by omega), if_neg (by omega), if_pos (by omega)]; rfl
    · rw [adB_o _ _ _ _ _ (by omega) q, e, if_neg (by omega), if_neg (by omega), if_neg (by omega), if_neg (by omega), if_neg (by omega), if_neg (by omega), if_neg (by omega)]
      exact f c (by omega) o ho
theorem Rel_putP {D : zBk} {σ : zS} {p o : Nat} {v : Int} (w : WF D) (h : Rel D (σ.1 262)) (hp : (p : Int) < D 1 0) (ho : 10 ≤ o ∧ o ≤ 11) : Rel (ov D (o - 4) p v) ((zput σ 262 (4 + 12 * p + o) v).1 262) := by
  have hn := w.1
  unfold WFn at hn
  obtain ⟨⟨a1, a2, a3, a4⟩, b, m, d, f⟩ := h
  have k1 : ∀ i, i ≠ 4 + 12 * p + o → (zput σ 262 (4 + 12 * p + o) v).1 262 i = σ.1 262 i := fun i hi => zput_i _ _ _ _ _ hi
  have g : ∀ o' i', o' ≠ o - 4 → ov D (o - 4) p v o' i' = D o' i' := fun o' i' h1 => ov_k _ _ _ _ h1
  refine ⟨⟨?_, ?_, ?_, ?_⟩, fun p2 hp2 => ?_, fun q hq => ?_, fun q hq => ?_, fun c hc o2 ho2 => ?_⟩
  · rw [k1 0 (by omega), g _ _ (by omega)]; exact a1
  · rw [k1 1 (by omega), g _ _ (by omega)]; exact a2
  · rw [k1 2 (by omega), g _ _ (by omega)]; exact a3
  · rw [k1 3 (by omega), g _ _ (by omega)]; exact a4
  · rw [g _ _ (by omega)] at hp2
    obtain ⟨⟨n1, n2, n3⟩, n4⟩ := b p2 hp2
    refine ⟨⟨?_, fun k hk => ?_, ?_⟩, fun o2 h1 h2 => ?_⟩
    · rw [k1 _ (by omega)]; exact n1
    · rw [k1 _ (by omega)] at hk
      rw [k1 _ (by omega)]; exact n2 k hk
    · rw [k1 _ (by omega), g _ _ (by omega), n3]
      have hz : ∀ (n : Nat), n ≤ 6 → pkF (fun k => σ.1 262 (4 + 12 * p2 + 1 + k)) n = pkF (fun k => (zput σ 262 (4 + 12 * p + o) v).1 262 (4 + 12 * p2 + 1 + k)) n := by
        intro n
        induction n with
        | zero => intro _; rfl
        | succ n ih => intro hn; rw [pkF, pkF, ih (by omega), k1 _ (by omega)]
      exact hz _ (by omega)
    · by_cases e : p2 = p ∧ o2 = o
      · rw [e.1, e.2, zput_s, ov_s]
      · rw [k1 _ (by omega), show ov D (o - 4) p v (o2 - 4) p2 = D (o2 - 4) p2 from if_neg (by omega)]; exact n4 o2 h1 h2
  · rw [g _ _ (by omega)] at hq
    rw [k1 _ (by omega), k1 _ (by omega), g _ _ (by omega), g _ _ (by omega)]
    exact m q hq
  · rw [g _ _ (by omega)] at hq
    rw [k1 _ (by omega), k1 _ (by omega), g _ _ (by omega), g _ _ (by omega)]
    exact d q hq
  · rw [g _ _ (by omega)] at hc
    rw [k1 _ (by omega), g _ _ (by omega)]
    exact f c hc o2 ho2
theorem WF_ov7 {D : zBk} (w : WF D) {o p : Nat} {v : Int} (ho : o = 6 ∨ o = 7) : WF (ov D o p v) := by
  rcases ho with rfl | rfl
  · exact WF_agree w (fun o' i h _ _ _ => ov_k _ _ _ _ h) (fun c hc => by
      rw [ov_k _ _ _ _ (by decide), ov_k _ _ _ _ (by decide), ov_k _ _ _ _ (by decide)]; exact (w.2.2.2.2.1 c hc).2.2)
  · obtain ⟨wn, wp, wm, we, wc, wo⟩ := w
    have g : ∀ o' i', o' ≠ 7 → ov D 7 p v o' i' = D o' i' := fun o' i' h1 => ov_k _ _ _ _ h1
    refine ⟨?_, fun p hp => ?_, fun q hq => ?_, fun q hq => ?_, fun k hk => ?_, fun i hi => ?_, fun i j hij hj => ?_, fun k hk => ?_⟩
    · unfold WFn at *; rw [g _ _ (by omega), g _ _ (by omega), g _ _ (by omega), g _ _ (by omega)]; exact wn
    · rw [g _ _ (by omega)] at hp
      rw [g _ _ (by omega), g _ _ (by omega), g _ _ (by omega)]; exact wp p hp
    · rw [g _ _ (by omega)] at hq
      rw [g _ _ (by omega), g _ _ (by omega)]; exact wm q hq
    · rw [g _ _ (by omega)] at hq
      rw [g _ _ (by omega), g _ _ (by omega), g _ _ (by omega)]; exact we q hq
    · rw [g _ _ (by omega)] at hk
      have := wc k hk
      rw [g 13 k (by omega), g 14 k (by omega), g 15 k (by omega), g 16 k (by omega), g 17 k (by omega), g 18 k (by omega)]
      unfold WFk at *; rw [g _ _ (by omega)]; exact this
    · rw [g _ _ (by omega)] at hi
      rw [g _ _ (by omega), g _ _ (by omega)]; exact wo.1 i hi
    · rw [g _ _ (by omega)] at hj
      have := wo.2.1 i j hij hj
      unfold bef at *
      rw [g 19 i (by omega), g 19 j (by omega), g 13 _ (by omega), g 13 _ (by omega)]; exact this
    · rw [g _ _ (by omega)] at hk
      obtain ⟨i, h1, h2⟩ := wo.2.2 k hk
      exact ⟨i, by rw [g _ _ (by omega)]; exact h1, by rw [g _ _ (by omega)]; exact h2⟩
theorem ln_lEq {D : zBk} {a b : Nat} {u : Int} (h : ¬ a = b) : lEq (ov (ov D 6 a (zand (D 6 a) (zxor (zshl 1 u) (-1)))) 6 b (zor ((ov D 6 a (zand (D 6 a) (zxor (zshl 1 u) (-1)))) 6 b) (zshl 1 u))) (lnB D a b u) := by
  refine pEq_l (fun o _ i => ?_)
  unfold lnB lnV
  by_cases e : o = 6
  · subst e
    rw [if_pos rfl]
    by_cases e2 : i = b
    · subst e2
      rw [if_pos rfl, ov_s, ov_i _ _ _ _ (fun q => h q.symm)]
    · rw [if_neg e2, ov_i _ _ _ _ e2]
      by_cases e3 : i = a
      · subst e3; rw [if_pos rfl, ov_s]
      · rw [if_neg e3, ov_i _ _ _ _ e3]
  · rw [if_neg e, ov_k _ _ _ _ e, ov_k _ _ _ _ e]
noncomputable def clP (D : zBk) (n : Nat) : zBk := fun o i => if o = 18 ∧ i < n ∧ zb (opn D i) = 1 then 1 else D o i
theorem clP_k (D : zBk) (n : Nat) {o : Nat} (h : o ≠ 18) (i : Nat) : clP D n o i = D o i := if_neg (fun q => h q.1)
theorem clP_c (D : zBk) {n i : Nat} (h : n ≤ i) (o : Nat) : clP D n o i = D o i := if_neg (by omega)
theorem WF_clP {D : zBk} (w : WF D) (n : Nat) : WF (clP D n) := WF_agree w (fun o i _ _ _ h => clP_k D n h i) (fun c hc => by
  have := w.2.2.2.2.1 c hc
  rw [clP_k _ _ (by decide), clP_k _ _ (by decide)]
  refine ⟨this.2.2.1, this.2.2.2.1, ?_⟩
  unfold clP; split
  · exact Or.inr rfl
  · exact this.2.2.2.2)
theorem clP_0 (D : zBk) : lEq D (clP D 0) := pEq_l (fun o _ i => if_neg (by omega))
theorem clP_t {D : zBk} {n : Nat} (h : opn D n) : lEq (ov (clP D n) 18 n 1) (clP D (n + 1)) := pEq_l (fun o _ i => by
  by_cases e : o = 18 ∧ i = n
  · obtain ⟨rfl, rfl⟩ := e
    rw [ov_s]; exact if_pos ⟨rfl, Nat.lt_succ_self _, zb_t h⟩
  · rw [show ov (clP D n) 18 n 1 o i = clP D n o i from if_neg e]
    unfold clP
    by_cases e2 : o = 18 ∧ i < n ∧ zb (opn D i) = 1
    · rw [if_pos e2, if_pos ⟨e2.1, by omega, e2.2.2⟩]
    · rw [if_neg e2, if_neg (by omega)])
theorem clP_f {D : zBk} {n : Nat} (h : ¬ opn D n) : lEq (clP D n) (clP D (n + 1)) := pEq_l (fun o _ i => by
  unfold clP
  by_cases e2 : o = 18 ∧ i < n ∧ zb (opn D i) = 1
  · rw [if_pos e2, if_pos ⟨e2.1, by omega, e2.2.2⟩]
  · rw [if_neg e2, if_neg (fun q => by
      by_cases e3 : i = n
      · subst e3; have := q.2.2; rw [zb_f h] at this; omega
      · exact e2 ⟨q.1, by omega, q.2.2⟩)])
theorem clP_e {D : zBk} (w : WF D) : lEq (clP D (D 12 0).toNat) (clB D) := by
  refine ⟨⟨rfl, rfl, rfl, rfl⟩, fun p _ o h1 h2 => ?_, fun q _ => ⟨rfl, rfl⟩, fun q _ => ⟨rfl, rfl⟩, fun c hc o h1 h2 => ?_⟩
  · show (if o = 18 then _ else D o p) = _
    rw [if_neg (by omega), clP_k _ _ (by omega)]
  · have hc2 : (c : Int) < D 12 0 := hc
    unfold clB clP
    by_cases e : o = 18
    · subst e
      rw [if_pos rfl]
      by_cases e2 : zb (opn D c) = 1
      · rw [if_pos e2, if_pos ⟨rfl, by omega, e2⟩]
      · rw [if_neg e2, if_neg (fun q => e2 q.2.2)]
    · rw [if_neg e, if_neg (fun q => e q.1)]
theorem opn_clP {D : zBk} (w : WF D) (h1 : 1 ≤ D 1 0) (c : Nat) : (Ht (clP D c) c ∧ ¬ (works (clP D c) (wP D (Ht D)) (wY D (Ht D)) ∧ cFit (clP D c) (wP D (Ht D)) (wY D (Ht D)) c)) ↔ opn D c := by
  rw [← opn_e w h1 c]
  have e1 : Ht (clP D c) c ↔ Ht D c := by unfold Ht; rw [clP_c D (Nat.le_refl c), clP_c D (Nat.le_refl c)]
  have e2 : works (clP D c) (wP D (Ht D)) (wY D (Ht D)) ↔ works D (wP D (Ht D)) (wY D (Ht D)) := by unfold works; rw [clP_k _ _ (by decide), clP_k _ _ (by decide)]
  rw [e1, e2, cFit_ag (fun o ho i => clP_k D c (by omega) i)]

set_option maxRecDepth 20000 in
set_option maxHeartbeats 2000000 in
theorem sX10_keeps {l : Launch} {w : zW} (hfl : l.stackTraces = false) {σ : zS} {q : Nat} (hz : zOK σ) (h5 : 0 ≤ σ.1 261 5 ∧ σ.1 261 5 ≤ 8) (hq : q ≠ 266) (hq2 : q ≠ 261) : Sp l w mX10_keeps 1 0 [zf 10 261, zf 29 q] σ (zqv (none) (fun τ => zOK τ ∧ mfr σ τ (fun k => k = 266) (fun i => i = 5) ∧ MPu σ τ (σ.1 q))) := by
  obtain ⟨Q, hQ⟩ : ∃ Q : zQ, Q = (zqv (none) (fun τ => zOK τ ∧ mfr σ τ (fun k => k = 266) (fun i => i = 5) ∧ MPu σ τ (σ.1 q))) := ⟨_, rfl⟩
  rw [← hQ]
  refine zx_enter hfl (by decide) rfl 1 rfl ?_
  show zX l w mX10_keeps (zMQ w 1 0 Q) 0 [zf 10 261, zf 29 q, zu] [] 0 σ
  refine zx_aloadN dX10_keeps_0 rfl rfl ?_
  refine zy_getI fl_RX10_348 rfl dX10_keeps_1 rfl ?_
  refine zx_bipush dX10_keeps_4 rfl ?_
  refine zx_icmp_ne (tgt := 50) (by first | exact hz _ _ | assumption | exact zr_b _ | exact zcmp_r _ _ | (unfold zr at *; omega)) (by first | exact hz _ _ | assumption | exact zr_b _ | exact zcmp_r _ _ | (unfold zr at *; omega)) dX10_keeps_6 (by decide) (fun h6 => ?_) (fun h6 => ?_)
  · refine zx_aloadN dX10_keeps_50 rfl rfl ?_
    refine zx_iconst dX10_keeps_51 ?_
    refine zx_aloadN dX10_keeps_52 rfl rfl ?_
    refine zy_getR (q' := 266) fl_RX10_22 rfl dX10_keeps_53 rfl ?_
    refine zx_sipush dX10_keeps_56 rfl ?_
    refine zx_aloadN dX10_keeps_59 rfl rfl ?_
    refine zy_getI fl_RX10_348 rfl dX10_keeps_60 rfl ?_
    refine zx_imul dX10_keeps_63 ?_
    refine zy_top (b := ((380 * (σ.1 261 5).toNat : Nat) : Int)) (by omega) ?_
    refine zy_csvR [zf 29 q, zi 0, zf 30 266, zi ((380 * (σ.1 261 5).toNat : Nat) : Int)] (sX10_copies_b (q := q) (a := 0) (v := 266) (b := (380 * (σ.1 261 5).toNat)) hfl hz (by omega) (by first | (rw [zput_s] ; omega) | omega) hq) dX10_keeps_64 cw_RX10_70 okX10_copies rfl (Nat.le_of_ble_eq_true rfl) ⟨Nat.le_of_ble_eq_true rfl, Nat.le_of_ble_eq_true rfl, Nat.le_of_ble_eq_true rfl, Nat.le_of_ble_eq_true rfl⟩ (fun τ64 hr64 => ?_)
    have hz64 : zOK τ64 := hr64.1
    have e64 := hr64.2.1 261 (by decide) 5
    try rw [zput_s] at e64
    refine zx_aloadN dX10_keeps_67 rfl rfl ?_
    refine zx_dup rfl dX10_keeps_68 ?_
    refine zy_getI fl_RX10_348 rfl dX10_keeps_69 rfl ?_
    refine zx_iconst dX10_keeps_72 ?_
    refine zx_iadd dX10_keeps_73 ?_
    refine zx_putI fl_RX10_348 rfl (Or.inl fp_10_5) dX10_keeps_74 ?_
    refine zx_vret rfl dX10_keeps_77 ?_
    rw [hQ]
    refine ⟨rfl, ?_⟩
    first
    | (have hk := mkeep (q := q) h5 (mfr_rf σ _ _) (Or.inl ⟨by omega, rfl, fun _ => rfl⟩) hq hq2 hr64.2
       exact ⟨(zOK_put hz64 (by first | exact hz64 _ _ | assumption | exact zr_b _ | exact zcmp_r _ _ | (unfold zr at *; omega))), hk⟩)
    | (have e5 : σ.1 261 5 = 8 := by omega
       have t5 := h1t5
       have hk := mkeep (q := q) h5 (mfr_mo (mfr_put261 (i := 5) (v := τ.1 261 5 - 1) h1) (fun _ q => q) (fun i q => q.elim id id)) (Or.inr ⟨e5, by rw [zput_s]; omega, fun j hj => (zput_k _ _ _ _ _ (by omega)).trans (h2 j (by omega))⟩) hq hq2 hr64.2
       exact ⟨(zOK_put hz64 (by first | exact hz64 _ _ | assumption | exact zr_b _ | exact zcmp_r _ _ | (unfold zr at *; omega))), hk⟩)
  · refine zx_iconst dX10_keeps_9 ?_
    refine zy_istoreN [zf 10 261, zf 29 q, zi 0] dX10_keeps_10 rfl (Nat.le_of_ble_eq_true rfl) (Nat.le_of_ble_eq_true rfl) rfl rfl ?_
    have L11 : ∀ (N : Nat) (τ : zS) (k : Nat), (zOK τ) → (k ≤ 2660) → (mfr σ τ (fun k => k = 266) (fun i => i = 5)) → (∀ j, j < k → τ.1 266 j = σ.1 266 (j + 380)) → (∀ j, k ≤ j → τ.1 266 j = σ.1 266 j) → (τ.1 261 5 = σ.1 261 5) → (2661 - k) < N → zX l w mX10_keeps (zMQ w 1 0 Q) 11 [zf 10 261, zf 29 q, zi ((k : Nat) : Int)] [] 0 τ := by
      intro N
      induction N with
      | zero => intro τ k _ _ _ _ _ _ _; exact absurd (by assumption) (Nat.not_lt_zero _)
      | succ N ih11 =>
        intro τ k hz hk h1 h2 h3 h1t5 hN
        refine zx_iloadN dX10_keeps_11 rfl rfl ?_
        refine zx_sipush dX10_keeps_12 rfl ?_
        refine zx_icmp_ge (tgt := 40) (by first | exact hz _ _ | assumption | exact zr_b _ | exact zcmp_r _ _ | (unfold zr at *; omega)) (by first | exact hz _ _ | assumption | exact zr_b _ | exact zcmp_r _ _ | (unfold zr at *; omega)) dX10_keeps_15 (by decide) (fun h15 => ?_) (fun h15 => ?_)
        · refine zx_aloadN dX10_keeps_40 rfl rfl ?_
          refine zx_dup rfl dX10_keeps_41 ?_
          refine zy_getI fl_RX10_348 rfl dX10_keeps_42 rfl ?_
          refine zx_iconst dX10_keeps_45 ?_
          refine zx_isub dX10_keeps_46 ?_
          refine zx_putI fl_RX10_348 rfl (Or.inl fp_10_5) dX10_keeps_47 ?_
          refine zx_aloadN dX10_keeps_50 rfl rfl ?_
          refine zx_iconst dX10_keeps_51 ?_
          refine zx_aloadN dX10_keeps_52 rfl rfl ?_
          refine zy_getR (q' := 266) fl_RX10_22 rfl dX10_keeps_53 rfl ?_
          refine zx_sipush dX10_keeps_56 rfl ?_
          refine zx_aloadN dX10_keeps_59 rfl rfl ?_
          refine zy_getI (v := (τ.1 261 5) - 1) fl_RX10_348 rfl dX10_keeps_60 (zput_s _ _ _ _) ?_
          refine zx_imul dX10_keeps_63 ?_
          refine zy_top (b := ((380 * ((τ.1 261 5) - 1).toNat : Nat) : Int)) (by omega) ?_
          refine zy_csvR [zf 29 q, zi 0, zf 30 266, zi ((380 * ((τ.1 261 5) - 1).toNat : Nat) : Int)] (sX10_copies_b (q := q) (a := 0) (v := 266) (b := (380 * ((τ.1 261 5) - 1).toNat)) hfl (zOK_put hz (by first | exact hz _ _ | assumption | exact zr_b _ | exact zcmp_r _ _ | (unfold zr at *; omega))) (by omega) (by first | (rw [zput_s] ; omega) | omega) hq) dX10_keeps_64 cw_RX10_70 okX10_copies rfl (Nat.le_of_ble_eq_true rfl) ⟨Nat.le_of_ble_eq_true rfl, Nat.le_of_ble_eq_true rfl, Nat.le_of_ble_eq_true rfl, Nat.le_of_ble_eq_true rfl⟩ (fun τ64 hr64 => ?_)
          have hz64 : zOK τ64 := hr64.1
          have e64 := hr64.2.1 261 (by decide) 5
          try rw [zput_s] at e64
          refine zx_aloadN dX10_keeps_67 rfl rfl ?_
          refine zx_dup rfl dX10_keeps_68 ?_
          refine zy_getI fl_RX10_348 rfl dX10_keeps_69 rfl ?_
          refine zx_iconst dX10_keeps_72 ?_
          refine zx_iadd dX10_keeps_73 ?_
          refine zx_putI fl_RX10_348 rfl (Or.inl fp_10_5) dX10_keeps_74 ?_
          refine zx_vret rfl dX10_keeps_77 ?_
          rw [hQ]
          refine ⟨rfl, ?_⟩
          first
          | (have hk := mkeep (q := q) h5 (mfr_rf σ _ _) (Or.inl ⟨by omega, rfl, fun _ => rfl⟩) hq hq2 hr64.2
             exact ⟨(zOK_put hz64 (by first | exact hz64 _ _ | assumption | exact zr_b _ | exact zcmp_r _ _ | (unfold zr at *; omega))), hk⟩)
          | (have e5 : σ.1 261 5 = 8 := by omega
             have t5 := h1t5
             have hk := mkeep (q := q) h5 (mfr_mo (mfr_put261 (i := 5) (v := τ.1 261 5 - 1) h1) (fun _ q => q) (fun i q => q.elim id id)) (Or.inr ⟨e5, by rw [zput_s]; omega, fun j hj => (zput_k _ _ _ _ _ (by omega)).trans (h2 j (by omega))⟩) hq hq2 hr64.2
             exact ⟨(zOK_put hz64 (by first | exact hz64 _ _ | assumption | exact zr_b _ | exact zcmp_r _ _ | (unfold zr at *; omega))), hk⟩)
        · refine zx_aloadN dX10_keeps_18 rfl rfl ?_
          refine zy_getR (q' := 266) fl_RX10_22 rfl dX10_keeps_19 rfl ?_
          refine zx_iloadN dX10_keeps_22 rfl rfl ?_
          refine zx_aloadN dX10_keeps_23 rfl rfl ?_
          refine zy_getR (q' := 266) fl_RX10_22 rfl dX10_keeps_24 rfl ?_
          refine zx_iloadN dX10_keeps_27 rfl rfl ?_
          refine zx_sipush dX10_keeps_28 rfl ?_
          refine zx_iadd dX10_keeps_31 ?_
          refine zy_top (b := ((k + 380 : Nat) : Int)) (by omega) ?_
          refine zy_iald (v := τ.1 266 (k + 380)) rfl (by decide) (by decide) dX10_keeps_32 (by omega) (by omega) rfl ?_
          refine zy_iast (i := k) rfl (by decide) (by decide) dX10_keeps_33 (by omega) (by omega) rfl ?_
          refine zy_iinc (b := ((k + 1 : Nat) : Int)) [zf 10 261, zf 29 q, zi ((k + 1 : Nat) : Int)] dX10_keeps_34 rfl (by omega) (Nat.le_of_ble_eq_true rfl) rfl rfl ?_
          refine zx_goto (tgt := 11) dX10_keeps_37 (by decide) ?_
          exact ih11 (zput τ 266 k (τ.1 266 (k + 380))) (k + 1) (zOK_put hz (by first | exact hz _ _ | assumption | exact zr_b _ | exact zcmp_r _ _ | (unfold zr at *; omega))) (by first | assumption | omega) (mfr_put h1 rfl (by decide)) (fun j hj => by
        rcases Nat.lt_succ_iff_lt_or_eq.mp hj with e | rfl
        · exact (zput_i _ _ _ _ _ (by omega)).trans (h2 j e)
        · exact (zput_s _ _ _ _).trans (h3 _ (by omega))) (fun j hj => (zput_i _ _ _ _ _ (by omega)).trans (h3 j (by omega))) ((zput_k _ _ _ _ _ (by omega)).trans h1t5) (by omega)
    exact L11 _ σ 0 hz (by first | assumption | omega) (mfr_rf _ _ _) (fun j hj => absurd hj (Nat.not_lt_zero j)) (fun _ _ => rfl) rfl (Nat.lt_succ_self _)
set_option maxRecDepth 20000 in
set_option maxHeartbeats 2000000 in
theorem sX10_tried_f {l : Launch} {w : zW} (hfl : l.stackTraces = false) {σ : zS} {A : Prop} (hz : zOK σ) (hw : ¬ A) : Sp l w mX10_tried 1 0 [zf 10 261, zi (zb A)] σ (zret (zi (zb A)) σ) := by
  obtain ⟨Q, hQ⟩ : ∃ Q : zQ, Q = (zret (zi (zb A)) σ) := ⟨_, rfl⟩
  rw [← hQ]
  refine zx_enter hfl (by decide) rfl 0 rfl ?_
  show zX l w mX10_tried (zMQ w 1 0 Q) 0 [zf 10 261, zi (zb A)] [] 0 σ
  refine zx_iloadN dX10_tried_0 rfl rfl ?_
  refine zx_if_eq (tgt := 17) (by first | exact hz _ _ | assumption | exact zr_b _ | exact zcmp_r _ _ | (unfold zr at *; omega)) dX10_tried_1 (by decide) (fun h1 => ?_) (fun h1 => ?_)
  · have h1 := zb_0.mp h1
    refine zx_iloadN dX10_tried_17 rfl rfl ?_
    refine zx_iret rfl (zb_nar _) dX10_tried_18 ?_
    rw [hQ]
    refine ⟨congrArg (fun z : Int => (Sum.inl (some (zi z)) : Option zV ⊕ String)) ?_, by first | rfl | (exfalso; omega)⟩
    rfl
  · have h1 := zb_n.mp h1
    exact absurd (by assumption) hw
set_option maxRecDepth 20000 in
set_option maxHeartbeats 2000000 in
theorem sX10_tried {l : Launch} {w : zW} (hfl : l.stackTraces = false) {σ : zS} {A : Prop} (hz : zOK σ) (hw : A) : Sp l w mX10_tried 1 0 [zf 10 261, zi (zb A)] σ (zqv (some (zi (zb A))) (fun τ => zOK τ ∧ cpo σ τ 262 0 264 0 380)) := by
  obtain ⟨Q, hQ⟩ : ∃ Q : zQ, Q = (zqv (some (zi (zb A))) (fun τ => zOK τ ∧ cpo σ τ 262 0 264 0 380)) := ⟨_, rfl⟩
  rw [← hQ]
  refine zx_enter hfl (by decide) rfl 0 rfl ?_
  show zX l w mX10_tried (zMQ w 1 0 Q) 0 [zf 10 261, zi (zb A)] [] 0 σ
  refine zx_iloadN dX10_tried_0 rfl rfl ?_
  refine zx_if_eq (tgt := 17) (by first | exact hz _ _ | assumption | exact zr_b _ | exact zcmp_r _ _ | (unfold zr at *; omega)) dX10_tried_1 (by decide) (fun h1 => ?_) (fun h1 => ?_)
  · have h1 := zb_0.mp h1
    refine zx_iloadN dX10_tried_17 rfl rfl ?_
    refine zx_iret rfl (zb_nar _) dX10_tried_18 ?_
    rw [hQ]
    refine ⟨congrArg (fun z : Int => (Sum.inl (some (zi z)) : Option zV ⊕ String)) ?_, ?_⟩
    · first | rfl
    first | exact absurd hw (by assumption) | exact hr14
  · have h1 := zb_n.mp h1
    refine zx_aloadN dX10_tried_4 rfl rfl ?_
    refine zy_getR (q' := 262) fl_RX10_7 rfl dX10_tried_5 rfl ?_
    refine zx_iconst dX10_tried_8 ?_
    refine zx_aloadN dX10_tried_9 rfl rfl ?_
    refine zy_getR (q' := 264) fl_RX10_16 rfl dX10_tried_10 rfl ?_
    refine zx_iconst dX10_tried_13 ?_
    refine zy_csvR [zf 29 262, zi 0, zf 29 264, zi 0] (sX10_copies_a (q := 262) (a := 0) (v := 264) (b := 0) hfl hz (by first | assumption | omega) (by first | assumption | omega) (by decide)) dX10_tried_14 cw_RX10_70 okX10_copies rfl (Nat.le_of_ble_eq_true rfl) ⟨Nat.le_of_ble_eq_true rfl, Nat.le_of_ble_eq_true rfl, Nat.le_of_ble_eq_true rfl, Nat.le_of_ble_eq_true rfl⟩ (fun τ14 hr14 => ?_)
    have hz14 : zOK τ14 := hr14.1
    refine zx_iloadN dX10_tried_17 rfl rfl ?_
    refine zx_iret rfl (zb_nar _) dX10_tried_18 ?_
    rw [hQ]
    refine ⟨congrArg (fun z : Int => (Sum.inl (some (zi z)) : Option zV ⊕ String)) ?_, ?_⟩
    · first | rfl
    first | exact absurd hw (by assumption) | exact hr14
set_option maxRecDepth 20000 in
set_option maxHeartbeats 2000000 in
theorem sX10_done {l : Launch} {w : zW} (hfl : l.stackTraces = false) {σ : zS} {A : Prop} (hz : zOK σ) (h5 : 0 ≤ σ.1 261 5 ∧ σ.1 261 5 ≤ 8) : Sp l w mX10_done 2 0 [zf 10 261, zi (zb A)] σ (zqv (some (zi (σ.1 261 14))) (fun τ => zOK τ ∧ mfr σ τ (fun k => k = 266) (fun i => i = 5) ∧ MPu σ τ (σ.1 264))) := by
  obtain ⟨Q, hQ⟩ : ∃ Q : zQ, Q = (zqv (some (zi (σ.1 261 14))) (fun τ => zOK τ ∧ mfr σ τ (fun k => k = 266) (fun i => i = 5) ∧ MPu σ τ (σ.1 264))) := ⟨_, rfl⟩
  rw [← hQ]
  refine zx_enter hfl (by decide) rfl 0 rfl ?_
  show zX l w mX10_done (zMQ w 2 0 Q) 0 [zf 10 261, zi (zb A)] [] 0 σ
  refine zx_aloadN dX10_done_0 rfl rfl ?_
  refine zx_aloadN dX10_done_1 rfl rfl ?_
  refine zy_getR (q' := 264) fl_RX10_16 rfl dX10_done_2 rfl ?_
  refine zy_cvvR [zf 29 264] (sX10_keeps  hfl hz (by first | assumption | omega) (by decide) (by decide)) dX10_done_5 (by decide) rfl cw_RX10_390 okX10_keeps rfl (Nat.le_of_ble_eq_true rfl) ⟨Nat.le_of_ble_eq_true rfl, Nat.le_of_ble_eq_true rfl, Nat.le_of_ble_eq_true rfl, Nat.le_of_ble_eq_true rfl⟩ (fun τ5 hr5 => ?_)
  have hz5 : zOK τ5 := hr5.1
  refine zx_aloadN dX10_done_8 rfl rfl ?_
  refine zy_getI fl_RX10_195 rfl dX10_done_9 rfl ?_
  refine zx_iret rfl rfl dX10_done_12 ?_
  rw [hQ]
  refine ⟨congrArg (fun z : Int => (Sum.inl (some (zi z)) : Option zV ⊕ String)) ?_, ?_⟩
  · exact hr5.2.1.2.1 14 (by omega)
  exact hr5
set_option maxRecDepth 20000 in
set_option maxHeartbeats 2000000 in
theorem sX10_clueComes {l : Launch} {w : zW} (hfl : l.stackTraces = false) {σ : zS} {D : zBk} {pg kd vl wt : Int} (hz : zOK σ) (hW : WF D) (hR : Rel D (σ.1 262)) (h1 : zr pg) (h2 : zr kd) (h3 : zr vl) (h4 : zr wt) (hK4 : D 12 0 < 40) : Sp l w mX10_clueComes 1 0 [zf 10 261, zi pg, zi kd, zi vl, zi wt] σ (zqv (none) (fun τ => zOK τ ∧ mfr σ τ (fun k => k = 262) (fun i => i = 14) ∧ Rel (adB D pg kd vl wt) (τ.1 262) ∧ τ.1 261 14 = D 12 0)) := by
  obtain ⟨Q, hQ⟩ : ∃ Q : zQ, Q = (zqv (none) (fun τ => zOK τ ∧ mfr σ τ (fun k => k = 262) (fun i => i = 14) ∧ Rel (adB D pg kd vl wt) (τ.1 262) ∧ τ.1 261 14 = D 12 0)) := ⟨_, rfl⟩
  rw [← hQ]
  refine zx_enter hfl (by decide) rfl 1 rfl ?_
  show zX l w mX10_clueComes (zMQ w 1 0 Q) 0 [zf 10 261, zi pg, zi kd, zi vl, zi wt, zu] [] 0 σ
  have hP : 0 ≤ D 1 0 ∧ D 1 0 ≤ 8 := hW.1.1
  have hM : 0 ≤ D 1 7 ∧ D 1 7 ≤ 8 := hW.1.2.1
  have hE : 0 ≤ D 1 10 ∧ D 1 10 ≤ 12 := hW.1.2.2.1
  have hK : 0 ≤ D 12 0 ∧ D 12 0 ≤ 40 := hW.1.2.2.2
  have r0 : σ.1 262 0 = D 1 0 := hR.1.1
  have r1 : σ.1 262 1 = D 1 7 := hR.1.2.1
  have r2 : σ.1 262 2 = D 1 10 := hR.1.2.2.1
  have r3 : σ.1 262 3 = D 12 0 := hR.1.2.2.2
  refine zx_aloadN dX10_clueComes_0 rfl rfl ?_
  refine zy_getR (q' := 262) fl_RX10_7 rfl dX10_clueComes_1 rfl ?_
  refine zx_iconst dX10_clueComes_4 ?_
  refine zy_iald (v := σ.1 262 3) rfl (by decide) (by decide) dX10_clueComes_5 (by omega) (by omega) rfl ?_
  refine zy_top (b := (((D 12 0).toNat : Nat) : Int)) (by omega) ?_
  refine zy_istore [zf 10 261, zi pg, zi kd, zi vl, zi wt, zi (((D 12 0).toNat : Nat) : Int)] dX10_clueComes_6 (Nat.le_of_ble_eq_true rfl) (Nat.le_of_ble_eq_true rfl) rfl rfl ?_
  refine zx_aloadN dX10_clueComes_8 rfl rfl ?_
  refine zx_iload dX10_clueComes_9 rfl ?_
  refine zx_iconst dX10_clueComes_11 ?_
  refine zy_top (b := ((0 : Nat) : Int)) (rfl) ?_
  refine zx_iloadN dX10_clueComes_12 rfl rfl ?_
  refine zy_cvv [zi (((D 12 0).toNat : Nat) : Int), zi ((0 : Nat) : Int), zi pg] (sX10_puts (c := ((D 12 0).toNat)) (o := 0) hfl hz (by first | assumption | omega) (by first | assumption | omega) (by first | exact hz _ _ | assumption | exact zr_b _ | exact zcmp_r _ _ | (unfold zr at *; omega))) dX10_clueComes_13 (by decide) rfl cw_RX10_175 okX10_puts rfl (Nat.le_of_ble_eq_true rfl) ⟨Nat.le_of_ble_eq_true rfl, Nat.le_of_ble_eq_true rfl, Nat.le_of_ble_eq_true rfl, Nat.le_of_ble_eq_true rfl⟩ ?_
  refine zx_aloadN dX10_clueComes_16 rfl rfl ?_
  refine zx_iload dX10_clueComes_17 rfl ?_
  refine zx_iconst dX10_clueComes_19 ?_
  refine zy_top (b := ((1 : Nat) : Int)) (rfl) ?_
  refine zx_iloadN dX10_clueComes_20 rfl rfl ?_
  refine zy_cvv [zi (((D 12 0).toNat : Nat) : Int), zi ((1 : Nat) : Int), zi kd] (sX10_puts (c := ((D 12 0).toNat)) (o := 1) hfl (zOK_put hz (by first | assumption | exact zr_t _ | (unfold zr; omega))) (by first | assumption | omega) (by first | assumption | omega) (by first | exact hz _ _ | assumption | exact zr_b _ | exact zcmp_r _ _ | (unfold zr at *; omega))) dX10_clueComes_21 (by decide) rfl cw_RX10_175 okX10_puts rfl (Nat.le_of_ble_eq_true rfl) ⟨Nat.le_of_ble_eq_true rfl, Nat.le_of_ble_eq_true rfl, Nat.le_of_ble_eq_true rfl, Nat.le_of_ble_eq_true rfl⟩ ?_
  refine zx_aloadN dX10_clueComes_24 rfl rfl ?_
  refine zx_iload dX10_clueComes_25 rfl ?_
  refine zx_iconst dX10_clueComes_27 ?_
  refine zy_top (b := ((2 : Nat) : Int)) (rfl) ?_
  refine zx_iloadN dX10_clueComes_28 rfl rfl ?_
  refine zy_cvv [zi (((D 12 0).toNat : Nat) : Int), zi ((2 : Nat) : Int), zi vl] (sX10_puts (c := ((D 12 0).toNat)) (o := 2) hfl (zOK_put (zOK_put hz (by first | assumption | exact zr_t _ | (unfold zr; omega))) (by first | assumption | exact zr_t _ | (unfold zr; omega))) (by first | assumption | omega) (by first | assumption | omega) (by first | exact hz _ _ | assumption | exact zr_b _ | exact zcmp_r _ _ | (unfold zr at *; omega))) dX10_clueComes_29 (by decide) rfl cw_RX10_175 okX10_puts rfl (Nat.le_of_ble_eq_true rfl) ⟨Nat.le_of_ble_eq_true rfl, Nat.le_of_ble_eq_true rfl, Nat.le_of_ble_eq_true rfl, Nat.le_of_ble_eq_true rfl⟩ ?_
  refine zx_aloadN dX10_clueComes_32 rfl rfl ?_
  refine zx_iload dX10_clueComes_33 rfl ?_
  refine zx_iconst dX10_clueComes_35 ?_
  refine zy_top (b := ((3 : Nat) : Int)) (rfl) ?_
  refine zx_iload dX10_clueComes_36 rfl ?_
  refine zy_cvv [zi (((D 12 0).toNat : Nat) : Int), zi ((3 : Nat) : Int), zi wt] (sX10_puts (c := ((D 12 0).toNat)) (o := 3) hfl (zOK_put (zOK_put (zOK_put hz (by first | assumption | exact zr_t _ | (unfold zr; omega))) (by first | assumption | exact zr_t _ | (unfold zr; omega))) (by first | assumption | exact zr_t _ | (unfold zr; omega))) (by first | assumption | omega) (by first | assumption | omega) (by first | exact hz _ _ | assumption | exact zr_b _ | exact zcmp_r _ _ | (unfold zr at *; omega))) dX10_clueComes_38 (by decide) rfl cw_RX10_175 okX10_puts rfl (Nat.le_of_ble_eq_true rfl) ⟨Nat.le_of_ble_eq_true rfl, Nat.le_of_ble_eq_true rfl, Nat.le_of_ble_eq_true rfl, Nat.le_of_ble_eq_true rfl⟩ ?_
  refine zx_aloadN dX10_clueComes_41 rfl rfl ?_
  refine zx_iload dX10_clueComes_42 rfl ?_
  refine zx_iconst dX10_clueComes_44 ?_
  refine zy_top (b := ((4 : Nat) : Int)) (rfl) ?_
  refine zx_iconst dX10_clueComes_45 ?_
  refine zy_cvv [zi (((D 12 0).toNat : Nat) : Int), zi ((4 : Nat) : Int), zi 0] (sX10_puts (c := ((D 12 0).toNat)) (o := 4) hfl (zOK_put (zOK_put (zOK_put (zOK_put hz (by first | assumption | exact zr_t _ | (unfold zr; omega))) (by first | assumption | exact zr_t _ | (unfold zr; omega))) (by first | assumption | exact zr_t _ | (unfold zr; omega))) (by first | assumption | exact zr_t _ | (unfold zr; omega))) (by first | assumption | omega) (by first | assumption | omega) (by first | exact hz _ _ | assumption | exact zr_b _ | exact zcmp_r _ _ | (unfold zr at *; omega))) dX10_clueComes_46 (by decide) rfl cw_RX10_175 okX10_puts rfl (Nat.le_of_ble_eq_true rfl) ⟨Nat.le_of_ble_eq_true rfl, Nat.le_of_ble_eq_true rfl, Nat.le_of_ble_eq_true rfl, Nat.le_of_ble_eq_true rfl⟩ ?_
  refine zx_aloadN dX10_clueComes_49 rfl rfl ?_
  refine zx_iload dX10_clueComes_50 rfl ?_
  refine zx_iconst dX10_clueComes_52 ?_
  refine zy_top (b := ((5 : Nat) : Int)) (rfl) ?_
  refine zx_iconst dX10_clueComes_53 ?_
  refine zy_cvv [zi (((D 12 0).toNat : Nat) : Int), zi ((5 : Nat) : Int), zi 0] (sX10_puts (c := ((D 12 0).toNat)) (o := 5) hfl (zOK_put (zOK_put (zOK_put (zOK_put (zOK_put hz (by first | assumption | exact zr_t _ | (unfold zr; omega))) (by first | assumption | exact zr_t _ | (unfold zr; omega))) (by first | assumption | exact zr_t _ | (unfold zr; omega))) (by first | assumption | exact zr_t _ | (unfold zr; omega))) (by first | assumption | exact zr_t _ | (unfold zr; omega))) (by first | assumption | omega) (by first | assumption | omega) (by first | exact hz _ _ | assumption | exact zr_b _ | exact zcmp_r _ _ | (unfold zr at *; omega))) dX10_clueComes_54 (by decide) rfl cw_RX10_175 okX10_puts rfl (Nat.le_of_ble_eq_true rfl) ⟨Nat.le_of_ble_eq_true rfl, Nat.le_of_ble_eq_true rfl, Nat.le_of_ble_eq_true rfl, Nat.le_of_ble_eq_true rfl⟩ ?_
  refine zx_aloadN dX10_clueComes_57 rfl rfl ?_
  refine zy_getR (q' := 262) fl_RX10_7 rfl dX10_clueComes_58 rfl ?_
  refine zx_iconst dX10_clueComes_61 ?_
  refine zx_dup2 rfl rfl dX10_clueComes_62 ?_
  refine zy_iald (v := σ.1 262 3) rfl (by decide) (by decide) dX10_clueComes_63 (by omega) (by omega) ((zput_i _ _ _ _ _ (by omega)).trans ((zput_i _ _ _ _ _ (by omega)).trans ((zput_i _ _ _ _ _ (by omega)).trans ((zput_i _ _ _ _ _ (by omega)).trans ((zput_i _ _ _ _ _ (by omega)).trans (zput_i _ _ _ _ _ (by omega))))))) ?_
  refine zx_iconst dX10_clueComes_64 ?_
  refine zx_iadd dX10_clueComes_65 ?_
  refine zy_iast (i := 3) rfl (by decide) (by decide) dX10_clueComes_66 (by omega) (by omega) rfl ?_
  refine zx_aloadN dX10_clueComes_67 rfl rfl ?_
  refine zx_iload dX10_clueComes_68 rfl ?_
  refine zx_putI fl_RX10_195 rfl (Or.inl fp_10_14) dX10_clueComes_70 ?_
  refine zx_vret rfl dX10_clueComes_73 ?_
  rw [hQ]
  refine ⟨rfl, ?_⟩
  refine ⟨(zOK_put (zOK_put (zOK_put (zOK_put (zOK_put (zOK_put (zOK_put (zOK_put hz (by first | assumption | exact zr_t _ | (unfold zr; omega))) (by first | assumption | exact zr_t _ | (unfold zr; omega))) (by first | assumption | exact zr_t _ | (unfold zr; omega))) (by first | assumption | exact zr_t _ | (unfold zr; omega))) (by first | assumption | exact zr_t _ | (unfold zr; omega))) (by first | assumption | exact zr_t _ | (unfold zr; omega))) (by first | exact hz _ _ | assumption | exact zr_b _ | exact zcmp_r _ _ | (unfold zr at *; omega))) (by first | exact hz _ _ | assumption | exact zr_b _ | exact zcmp_r _ _ | (unfold zr at *; omega))), ?_, Rel_ad hW hR hK4 (fun i => ?_), (zput_s _ _ _ _).trans (by omega)⟩
  · refine ⟨fun k hk hk2 i => ?_, fun i hi => ?_, rfl⟩
    · simp only [zput_e]; (repeat' split) <;> first | rfl | omega
    · simp only [zput_e]; (repeat' split) <;> first | rfl | omega
  · simp only [zput_e, true_and]; (repeat' split) <;> first | rfl | omega
set_option maxRecDepth 20000 in
set_option maxHeartbeats 2000000 in
theorem sX10_clueNow_f {l : Launch} {w : zW} (hfl : l.stackTraces = false) {σ : zS} {D : zBk} {pg kd vl wt : Int} (hz : zOK σ) (hW : WF D) (hR : Rel D (σ.1 262)) (h1 : zr pg) (h2 : zr kd) (h3 : zr vl) (h4 : zr wt) (hw : D 12 0 = 40) : Sp l w mX10_clueNow 2 0 [zf 10 261, zi pg, zi kd, zi vl, zi wt] σ (zret (zi (zb False)) σ) := by
  obtain ⟨Q, hQ⟩ : ∃ Q : zQ, Q = (zret (zi (zb False)) σ) := ⟨_, rfl⟩
  rw [← hQ]
  refine zx_enter hfl (by decide) rfl 0 rfl ?_
  show zX l w mX10_clueNow (zMQ w 2 0 Q) 0 [zf 10 261, zi pg, zi kd, zi vl, zi wt] [] 0 σ
  have hP : 0 ≤ D 1 0 ∧ D 1 0 ≤ 8 := hW.1.1
  have hM : 0 ≤ D 1 7 ∧ D 1 7 ≤ 8 := hW.1.2.1
  have hE : 0 ≤ D 1 10 ∧ D 1 10 ≤ 12 := hW.1.2.2.1
  have hK : 0 ≤ D 12 0 ∧ D 12 0 ≤ 40 := hW.1.2.2.2
  have r0 : σ.1 262 0 = D 1 0 := hR.1.1
  have r1 : σ.1 262 1 = D 1 7 := hR.1.2.1
  have r2 : σ.1 262 2 = D 1 10 := hR.1.2.2.1
  have r3 : σ.1 262 3 = D 12 0 := hR.1.2.2.2
  refine zx_aloadN dX10_clueNow_0 rfl rfl ?_
  refine zy_getR (q' := 262) fl_RX10_7 rfl dX10_clueNow_1 rfl ?_
  refine zx_iconst dX10_clueNow_4 ?_
  refine zy_iald (v := σ.1 262 3) rfl (by decide) (by decide) dX10_clueNow_5 (by omega) (by omega) rfl ?_
  refine zx_bipush dX10_clueNow_6 rfl ?_
  refine zx_icmp_ne (tgt := 13) (by first | exact hz _ _ | assumption | exact zr_b _ | exact zcmp_r _ _ | (unfold zr at *; omega)) (by first | exact hz _ _ | assumption | exact zr_b _ | exact zcmp_r _ _ | (unfold zr at *; omega)) dX10_clueNow_8 (by decide) (fun h8 => ?_) (fun h8 => ?_)
  · exfalso; omega
  · refine zx_iconst dX10_clueNow_11 ?_
    refine zx_iret rfl rfl dX10_clueNow_12 ?_
    rw [hQ]
    refine ⟨congrArg (fun z : Int => (Sum.inl (some (zi z)) : Option zV ⊕ String)) ?_, by first | rfl | (exfalso; omega)⟩
    exact (zb_f (fun q => q)).symm
set_option maxRecDepth 20000 in
set_option maxHeartbeats 2000000 in
theorem sX10_clueNow {l : Launch} {w : zW} (hfl : l.stackTraces = false) {σ : zS} {D : zBk} {pg kd vl wt : Int} (hz : zOK σ) (hW : WF D) (hR : Rel D (σ.1 262)) (h1 : zr pg) (h2 : zr kd) (h3 : zr vl) (h4 : zr wt) (hK4 : D 12 0 < 40) : Sp l w mX10_clueNow 2 0 [zf 10 261, zi pg, zi kd, zi vl, zi wt] σ (zqv (some (zi (zb True))) (fun τ => zOK τ ∧ mfr σ τ (fun k => k = 262) (fun i => i = 14) ∧ Rel (adB D pg kd vl wt) (τ.1 262) ∧ τ.1 261 14 = D 12 0)) := by
  obtain ⟨Q, hQ⟩ : ∃ Q : zQ, Q = (zqv (some (zi (zb True))) (fun τ => zOK τ ∧ mfr σ τ (fun k => k = 262) (fun i => i = 14) ∧ Rel (adB D pg kd vl wt) (τ.1 262) ∧ τ.1 261 14 = D 12 0)) := ⟨_, rfl⟩
  rw [← hQ]
  refine zx_enter hfl (by decide) rfl 0 rfl ?_
  show zX l w mX10_clueNow (zMQ w 2 0 Q) 0 [zf 10 261, zi pg, zi kd, zi vl, zi wt] [] 0 σ
  have hP : 0 ≤ D 1 0 ∧ D 1 0 ≤ 8 := hW.1.1
  have hM : 0 ≤ D 1 7 ∧ D 1 7 ≤ 8 := hW.1.2.1
  have hE : 0 ≤ D 1 10 ∧ D 1 10 ≤ 12 := hW.1.2.2.1
  have hK : 0 ≤ D 12 0 ∧ D 12 0 ≤ 40 := hW.1.2.2.2
  have r0 : σ.1 262 0 = D 1 0 := hR.1.1
  have r1 : σ.1 262 1 = D 1 7 := hR.1.2.1
  have r2 : σ.1 262 2 = D 1 10 := hR.1.2.2.1
  have r3 : σ.1 262 3 = D 12 0 := hR.1.2.2.2
  refine zx_aloadN dX10_clueNow_0 rfl rfl ?_
  refine zy_getR (q' := 262) fl_RX10_7 rfl dX10_clueNow_1 rfl ?_
  refine zx_iconst dX10_clueNow_4 ?_
  refine zy_iald (v := σ.1 262 3) rfl (by decide) (by decide) dX10_clueNow_5 (by omega) (by omega) rfl ?_
  refine zx_bipush dX10_clueNow_6 rfl ?_
  refine zx_icmp_ne (tgt := 13) (by first | exact hz _ _ | assumption | exact zr_b _ | exact zcmp_r _ _ | (unfold zr at *; omega)) (by first | exact hz _ _ | assumption | exact zr_b _ | exact zcmp_r _ _ | (unfold zr at *; omega)) dX10_clueNow_8 (by decide) (fun h8 => ?_) (fun h8 => ?_)
  · refine zx_aloadN dX10_clueNow_13 rfl rfl ?_
    refine zx_iloadN dX10_clueNow_14 rfl rfl ?_
    refine zx_iloadN dX10_clueNow_15 rfl rfl ?_
    refine zx_iloadN dX10_clueNow_16 rfl rfl ?_
    refine zx_iload dX10_clueNow_17 rfl ?_
    refine zy_cvvR [zi pg, zi kd, zi vl, zi wt] (sX10_clueComes (D := D) hfl hz (by first | assumption | omega) (by first | assumption | (refine Rel_put (by decide) ?_; assumption) | (refine Rel_put (by decide) (Rel_put (by decide) ?_); assumption) | (refine Rel_put (by decide) (Rel_put (by decide) (Rel_put (by decide) ?_)); assumption)) (by first | exact hz _ _ | assumption | exact zr_b _ | exact zcmp_r _ _ | (unfold zr at *; omega)) (by first | exact hz _ _ | assumption | exact zr_b _ | exact zcmp_r _ _ | (unfold zr at *; omega)) (by first | exact hz _ _ | assumption | exact zr_b _ | exact zcmp_r _ _ | (unfold zr at *; omega)) (by first | exact hz _ _ | assumption | exact zr_b _ | exact zcmp_r _ _ | (unfold zr at *; omega)) (by first | assumption | omega)) dX10_clueNow_19 (by decide) rfl cw_RX10_198 okX10_clueComes rfl (Nat.le_of_ble_eq_true rfl) ⟨Nat.le_of_ble_eq_true rfl, Nat.le_of_ble_eq_true rfl, Nat.le_of_ble_eq_true rfl, Nat.le_of_ble_eq_true rfl⟩ (fun τ19 hr19 => ?_)
    have hz19 : zOK τ19 := hr19.1
    refine zx_iconst dX10_clueNow_22 ?_
    refine zx_iret rfl rfl dX10_clueNow_23 ?_
    rw [hQ]
    refine ⟨congrArg (fun z : Int => (Sum.inl (some (zi z)) : Option zV ⊕ String)) ?_, ?_⟩
    · exact (zb_t trivial).symm
    exact hr19
  · exfalso; omega
set_option maxRecDepth 20000 in
set_option maxHeartbeats 2000000 in
theorem sX10_readNow {l : Launch} {w : zW} (hfl : l.stackTraces = false) {σ : zS} {D : zBk} {x : Int} (hz : zOK σ) (hW : WF D) (hR : Rel D (σ.1 262)) (hx : 0 ≤ x ∧ x ≤ 40) : Sp l w mX10_readNow 4 0 [zf 10 261, zi x] σ (zqv (some (zi (zb True))) (fun τ => zOK τ ∧ mfr σ τ (fun k => k = 262) (fun i => i = 14) ∧ Rel (rdB D x) (τ.1 262) ∧ τ.1 261 14 = min x (U D (D 12 0).toNat))) := by
  obtain ⟨Q, hQ⟩ : ∃ Q : zQ, Q = (zqv (some (zi (zb True))) (fun τ => zOK τ ∧ mfr σ τ (fun k => k = 262) (fun i => i = 14) ∧ Rel (rdB D x) (τ.1 262) ∧ τ.1 261 14 = min x (U D (D 12 0).toNat))) := ⟨_, rfl⟩
  rw [← hQ]
  refine zx_enter hfl (by decide) rfl 0 rfl ?_
  show zX l w mX10_readNow (zMQ w 4 0 Q) 0 [zf 10 261, zi x] [] 0 σ
  have hP : 0 ≤ D 1 0 ∧ D 1 0 ≤ 8 := hW.1.1
  have hM : 0 ≤ D 1 7 ∧ D 1 7 ≤ 8 := hW.1.2.1
  have hE : 0 ≤ D 1 10 ∧ D 1 10 ≤ 12 := hW.1.2.2.1
  have hK : 0 ≤ D 12 0 ∧ D 12 0 ≤ 40 := hW.1.2.2.2
  have r0 : σ.1 262 0 = D 1 0 := hR.1.1
  have r1 : σ.1 262 1 = D 1 7 := hR.1.2.1
  have r2 : σ.1 262 2 = D 1 10 := hR.1.2.2.1
  have r3 : σ.1 262 3 = D 12 0 := hR.1.2.2.2
  have hUb := U_b D (D 12 0).toNat
  have hzx : zr x := by unfold zr; omega
  refine zx_aloadN dX10_readNow_0 rfl rfl ?_
  refine zx_aloadN dX10_readNow_1 rfl rfl ?_
  refine zx_iloadN dX10_readNow_2 rfl rfl ?_
  refine zy_cvR [zi x] (sX10_reads (D := D) hfl hz (by first | assumption | omega) (by first | assumption | (refine Rel_put (by decide) ?_; assumption) | (refine Rel_put (by decide) (Rel_put (by decide) ?_); assumption) | (refine Rel_put (by decide) (Rel_put (by decide) (Rel_put (by decide) ?_)); assumption)) (by first | assumption | omega)) dX10_readNow_3 (by decide) rfl cw_RX10_202 okX10_reads rfl (Nat.le_of_ble_eq_true rfl) ⟨Nat.le_of_ble_eq_true rfl, Nat.le_of_ble_eq_true rfl, Nat.le_of_ble_eq_true rfl, Nat.le_of_ble_eq_true rfl⟩ (fun τ3 hr3 => ?_)
  have hz3 : zOK τ3 := hr3.1
  refine zx_putI fl_RX10_195 rfl (Or.inl fp_10_14) dX10_readNow_6 ?_
  refine zx_iconst dX10_readNow_9 ?_
  refine zx_iret rfl rfl dX10_readNow_10 ?_
  rw [hQ]
  refine ⟨congrArg (fun z : Int => (Sum.inl (some (zi z)) : Option zV ⊕ String)) ?_, ?_⟩
  · exact (zb_t trivial).symm
  exact ⟨(zOK_put hz3 (by first | exact hz3 _ _ | assumption | exact zr_b _ | exact zcmp_r _ _ | (unfold zr at *; omega))), mfr_mo (mfr_put261 hr3.2.1) (fun k q => q) (fun i q => by first | omega | (rcases q with q | q; exact absurd q id; exact q)), Rel_put (by decide) hr3.2.2, zput_s _ _ _ _⟩
set_option maxRecDepth 20000 in
set_option maxHeartbeats 2000000 in
theorem sX10_asideNow_f {l : Launch} {w : zW} (hfl : l.stackTraces = false) {σ : zS} {D : zBk} {x y : Int} (hz : zOK σ) (hW : WF D) (hR : Rel D (σ.1 262)) (hx : zr x) (hy : y = 0 ∨ y = 1) (hw : ¬ (0 ≤ x ∧ x < D 12 0 ∧ ¬ D 18 x.toNat = y)) : Sp l w mX10_asideNow 12 0 [zf 10 261, zi x, zi y] σ (zret (zi (zb False)) σ) := by
  obtain ⟨Q, hQ⟩ : ∃ Q : zQ, Q = (zret (zi (zb False)) σ) := ⟨_, rfl⟩
  rw [← hQ]
  refine zx_enter hfl (by decide) rfl 0 rfl ?_
  show zX l w mX10_asideNow (zMQ w 12 0 Q) 0 [zf 10 261, zi x, zi y] [] 0 σ
  have hP : 0 ≤ D 1 0 ∧ D 1 0 ≤ 8 := hW.1.1
  have hM : 0 ≤ D 1 7 ∧ D 1 7 ≤ 8 := hW.1.2.1
  have hE : 0 ≤ D 1 10 ∧ D 1 10 ≤ 12 := hW.1.2.2.1
  have hK : 0 ≤ D 12 0 ∧ D 12 0 ≤ 40 := hW.1.2.2.2
  have r0 : σ.1 262 0 = D 1 0 := hR.1.1
  have r1 : σ.1 262 1 = D 1 7 := hR.1.2.1
  have r2 : σ.1 262 2 = D 1 10 := hR.1.2.2.1
  have r3 : σ.1 262 3 = D 12 0 := hR.1.2.2.2
  have ex : 0 ≤ x → x = ((x.toNat : Nat) : Int) := fun q => by omega
  have hzy : zr y := by unfold zr; omega
  have hbx : 0 ≤ x ∧ x < D 12 0 → (D 18 x.toNat = 0 ∨ D 18 x.toNat = 1) := fun q => (hW.2.2.2.2.1 x.toNat (by omega)).2.2.2.2
  refine zx_aloadN dX10_asideNow_0 rfl rfl ?_
  refine zx_iloadN dX10_asideNow_1 rfl rfl ?_
  refine zy_cv [zi x] (sX10_isClue (D := D) hfl hz (by first | assumption | omega) (by first | assumption | (refine Rel_put (by decide) ?_; assumption) | (refine Rel_put (by decide) (Rel_put (by decide) ?_); assumption) | (refine Rel_put (by decide) (Rel_put (by decide) (Rel_put (by decide) ?_)); assumption)) (by first | exact hz _ _ | assumption | exact zr_b _ | exact zcmp_r _ _ | (unfold zr at *; omega))) dX10_asideNow_2 (by decide) rfl cw_RX10_205 okX10_isClue rfl (Nat.le_of_ble_eq_true rfl) ⟨Nat.le_of_ble_eq_true rfl, Nat.le_of_ble_eq_true rfl, Nat.le_of_ble_eq_true rfl, Nat.le_of_ble_eq_true rfl⟩ ?_
  refine zx_if_eq (tgt := 18) (by first | exact hz _ _ | assumption | exact zr_b _ | exact zcmp_r _ _ | (unfold zr at *; omega)) dX10_asideNow_5 (by decide) (fun h5 => ?_) (fun h5 => ?_)
  · have h5 := zb_0.mp h5
    refine zx_iconst dX10_asideNow_18 ?_
    refine zx_iret rfl rfl dX10_asideNow_19 ?_
    rw [hQ]
    refine ⟨congrArg (fun z : Int => (Sum.inl (some (zi z)) : Option zV ⊕ String)) ?_, by first | rfl | (exfalso; omega)⟩
    exact (zb_f (fun q => q)).symm
  · have h5 := zb_n.mp h5
    refine zx_aloadN dX10_asideNow_8 rfl rfl ?_
    refine zx_iloadN dX10_asideNow_9 rfl rfl ?_
    refine zy_top (b := ((x.toNat : Nat) : Int)) (by omega) ?_
    refine zx_iconst dX10_asideNow_10 ?_
    refine zy_cv [zi ((x.toNat : Nat) : Int), zi 5] (sX10_of (D := D) (c := x.toNat) (o := 5) hfl hz (by first | assumption | omega) (by first | assumption | (refine Rel_put (by decide) ?_; assumption) | (refine Rel_put (by decide) (Rel_put (by decide) ?_); assumption) | (refine Rel_put (by decide) (Rel_put (by decide) (Rel_put (by decide) ?_)); assumption)) (by first | assumption | omega) (by first | assumption | omega)) dX10_asideNow_11 (by decide) rfl cw_RX10_102 okX10_of rfl (Nat.le_of_ble_eq_true rfl) ⟨Nat.le_of_ble_eq_true rfl, Nat.le_of_ble_eq_true rfl, Nat.le_of_ble_eq_true rfl, Nat.le_of_ble_eq_true rfl⟩ ?_
    refine zy_top (b := D 18 x.toNat) rfl ?_
    have hz18 : zr (D 18 x.toNat) := by have := hbx ⟨by omega, by omega⟩; unfold zr; omega
    refine zx_iloadN dX10_asideNow_14 rfl rfl ?_
    refine zx_icmp_ne (tgt := 20) (by first | exact hz _ _ | assumption | exact zr_b _ | exact zcmp_r _ _ | (unfold zr at *; omega)) (by first | exact hz _ _ | assumption | exact zr_b _ | exact zcmp_r _ _ | (unfold zr at *; omega)) dX10_asideNow_15 (by decide) (fun h15 => ?_) (fun h15 => ?_)
    · exact absurd ⟨by omega, by omega, by assumption⟩ hw
    · refine zx_iconst dX10_asideNow_18 ?_
      refine zx_iret rfl rfl dX10_asideNow_19 ?_
      rw [hQ]
      refine ⟨congrArg (fun z : Int => (Sum.inl (some (zi z)) : Option zV ⊕ String)) ?_, by first | rfl | (exfalso; omega)⟩
      exact (zb_f (fun q => q)).symm
set_option maxRecDepth 20000 in
set_option maxHeartbeats 2000000 in
theorem sX10_asideNow {l : Launch} {w : zW} (hfl : l.stackTraces = false) {σ : zS} {D : zBk} {x y : Int} (hz : zOK σ) (hW : WF D) (hR : Rel D (σ.1 262)) (hx : zr x) (hy : y = 0 ∨ y = 1) (hP1 : 1 ≤ D 1 0) (hw : 0 ≤ x ∧ x < D 12 0 ∧ ¬ D 18 x.toNat = y) : Sp l w mX10_asideNow 12 0 [zf 10 261, zi x, zi y] σ (zqv (some (zi (zb True))) (fun τ => zOK τ ∧ mfr σ τ (fun k => k = 262 ∨ k = 267 ∨ k = 268) (fun i => (9 ≤ i ∧ i ≤ 11) ∨ i = 13 ∨ i = 14) ∧ Rel (ov D 18 x.toNat y) (τ.1 262) ∧ τ.1 261 14 = wS (ov D 18 x.toNat y) (Ht (ov D 18 x.toNat y)))) := by
  obtain ⟨Q, hQ⟩ : ∃ Q : zQ, Q = (zqv (some (zi (zb True))) (fun τ => zOK τ ∧ mfr σ τ (fun k => k = 262 ∨ k = 267 ∨ k = 268) (fun i => (9 ≤ i ∧ i ≤ 11) ∨ i = 13 ∨ i = 14) ∧ Rel (ov D 18 x.toNat y) (τ.1 262) ∧ τ.1 261 14 = wS (ov D 18 x.toNat y) (Ht (ov D 18 x.toNat y)))) := ⟨_, rfl⟩
  rw [← hQ]
  refine zx_enter hfl (by decide) rfl 0 rfl ?_
  show zX l w mX10_asideNow (zMQ w 12 0 Q) 0 [zf 10 261, zi x, zi y] [] 0 σ
  have hP : 0 ≤ D 1 0 ∧ D 1 0 ≤ 8 := hW.1.1
  have hM : 0 ≤ D 1 7 ∧ D 1 7 ≤ 8 := hW.1.2.1
  have hE : 0 ≤ D 1 10 ∧ D 1 10 ≤ 12 := hW.1.2.2.1
  have hK : 0 ≤ D 12 0 ∧ D 12 0 ≤ 40 := hW.1.2.2.2
  have r0 : σ.1 262 0 = D 1 0 := hR.1.1
  have r1 : σ.1 262 1 = D 1 7 := hR.1.2.1
  have r2 : σ.1 262 2 = D 1 10 := hR.1.2.2.1
  have r3 : σ.1 262 3 = D 12 0 := hR.1.2.2.2
  have ex : 0 ≤ x → x = ((x.toNat : Nat) : Int) := fun q => by omega
  have hzy : zr y := by unfold zr; omega
  have hbx : 0 ≤ x ∧ x < D 12 0 → (D 18 x.toNat = 0 ∨ D 18 x.toNat = 1) := fun q => (hW.2.2.2.2.1 x.toNat (by omega)).2.2.2.2
  have hWo : WF (ov D 18 x.toNat y) := WF_ovK hW (Or.inr ⟨Or.inr rfl, hy⟩)
  have hwb := wS_b hWo
  refine zx_aloadN dX10_asideNow_0 rfl rfl ?_
  refine zx_iloadN dX10_asideNow_1 rfl rfl ?_
  refine zy_cv [zi x] (sX10_isClue (D := D) hfl hz (by first | assumption | omega) (by first | assumption | (refine Rel_put (by decide) ?_; assumption) | (refine Rel_put (by decide) (Rel_put (by decide) ?_); assumption) | (refine Rel_put (by decide) (Rel_put (by decide) (Rel_put (by decide) ?_)); assumption)) (by first | exact hz _ _ | assumption | exact zr_b _ | exact zcmp_r _ _ | (unfold zr at *; omega))) dX10_asideNow_2 (by decide) rfl cw_RX10_205 okX10_isClue rfl (Nat.le_of_ble_eq_true rfl) ⟨Nat.le_of_ble_eq_true rfl, Nat.le_of_ble_eq_true rfl, Nat.le_of_ble_eq_true rfl, Nat.le_of_ble_eq_true rfl⟩ ?_
  refine zx_if_eq (tgt := 18) (by first | exact hz _ _ | assumption | exact zr_b _ | exact zcmp_r _ _ | (unfold zr at *; omega)) dX10_asideNow_5 (by decide) (fun h5 => ?_) (fun h5 => ?_)
  · have h5 := zb_0.mp h5
    exfalso; first | (have h5b := h5; omega) | omega
  · have h5 := zb_n.mp h5
    refine zx_aloadN dX10_asideNow_8 rfl rfl ?_
    refine zx_iloadN dX10_asideNow_9 rfl rfl ?_
    refine zy_top (b := ((x.toNat : Nat) : Int)) (by omega) ?_
    refine zx_iconst dX10_asideNow_10 ?_
    refine zy_cv [zi ((x.toNat : Nat) : Int), zi 5] (sX10_of (D := D) (c := x.toNat) (o := 5) hfl hz (by first | assumption | omega) (by first | assumption | (refine Rel_put (by decide) ?_; assumption) | (refine Rel_put (by decide) (Rel_put (by decide) ?_); assumption) | (refine Rel_put (by decide) (Rel_put (by decide) (Rel_put (by decide) ?_)); assumption)) (by first | assumption | omega) (by first | assumption | omega)) dX10_asideNow_11 (by decide) rfl cw_RX10_102 okX10_of rfl (Nat.le_of_ble_eq_true rfl) ⟨Nat.le_of_ble_eq_true rfl, Nat.le_of_ble_eq_true rfl, Nat.le_of_ble_eq_true rfl, Nat.le_of_ble_eq_true rfl⟩ ?_
    refine zy_top (b := D 18 x.toNat) rfl ?_
    have hz18 : zr (D 18 x.toNat) := by have := hbx ⟨by omega, by omega⟩; unfold zr; omega
    refine zx_iloadN dX10_asideNow_14 rfl rfl ?_
    refine zx_icmp_ne (tgt := 20) (by first | exact hz _ _ | assumption | exact zr_b _ | exact zcmp_r _ _ | (unfold zr at *; omega)) (by first | exact hz _ _ | assumption | exact zr_b _ | exact zcmp_r _ _ | (unfold zr at *; omega)) dX10_asideNow_15 (by decide) (fun h15 => ?_) (fun h15 => ?_)
    · refine zx_aloadN dX10_asideNow_20 rfl rfl ?_
      refine zx_iloadN dX10_asideNow_21 rfl rfl ?_
      refine zy_top (b := ((x.toNat : Nat) : Int)) (by omega) ?_
      refine zx_iconst dX10_asideNow_22 ?_
      refine zx_iloadN dX10_asideNow_23 rfl rfl ?_
      refine zy_cvv [zi ((x.toNat : Nat) : Int), zi 5, zi y] (sX10_puts (c := x.toNat) (o := 5) hfl hz (by first | assumption | omega) (by first | assumption | omega) (by first | exact hz _ _ | assumption | exact zr_b _ | exact zcmp_r _ _ | (unfold zr at *; omega))) dX10_asideNow_24 (by decide) rfl cw_RX10_175 okX10_puts rfl (Nat.le_of_ble_eq_true rfl) ⟨Nat.le_of_ble_eq_true rfl, Nat.le_of_ble_eq_true rfl, Nat.le_of_ble_eq_true rfl, Nat.le_of_ble_eq_true rfl⟩ ?_
      have hRo : Rel (ov D 18 x.toNat y) ((zput σ 262 (140 + 6 * x.toNat + 5) y).1 262) := Rel_putK (o := 5) hW hR (by omega) (by decide)
      refine zx_aloadN dX10_asideNow_27 rfl rfl ?_
      refine zx_aloadN dX10_asideNow_28 rfl rfl ?_
      refine zy_cvR [] (sX10_scoreOfVerdict (D := (ov D 18 x.toNat y)) hfl (zOK_put hz (by first | assumption | exact zr_t _ | (unfold zr; omega))) hWo hRo (show 1 ≤ (ov D 18 x.toNat y) 1 0 from hP1)) dX10_asideNow_29 (by decide) rfl cw_RX10_208 okX10_scoreOfVerdict rfl (Nat.le_of_ble_eq_true rfl) ⟨Nat.le_of_ble_eq_true rfl, Nat.le_of_ble_eq_true rfl, Nat.le_of_ble_eq_true rfl, Nat.le_of_ble_eq_true rfl⟩ (fun τ29 hr29 => ?_)
      have hz29 : zOK τ29 := hr29.1
      refine zx_putI fl_RX10_195 rfl (Or.inl fp_10_14) dX10_asideNow_32 ?_
      refine zx_iconst dX10_asideNow_35 ?_
      refine zx_iret rfl rfl dX10_asideNow_36 ?_
      rw [hQ]
      refine ⟨congrArg (fun z : Int => (Sum.inl (some (zi z)) : Option zV ⊕ String)) ?_, ?_⟩
      · exact (zb_t trivial).symm
      have m1 : mfr σ (zput σ 262 (140 + 6 * x.toNat + 5) y) (fun k => k = 262) (fun _ => False) := mfr_put (mfr_rf _ _ _) rfl (by decide)
      have m2 := mfr_tr (A'' := fun k => k = 262 ∨ k = 267 ∨ k = 268) (F'' := fun i => (9 ≤ i ∧ i ≤ 11) ∨ i = 13) m1 hr29.2.1 (fun k q => by omega) (fun i q => by first | omega | (rcases q with q | q; exact absurd q id; exact q))
      exact ⟨(zOK_put hz29 (by first | exact hz29 _ _ | assumption | exact zr_b _ | exact zcmp_r _ _ | (unfold zr at *; omega))), mfr_mo (mfr_put261 m2) (fun k q => q) (fun i q => by omega), Rel_put (by decide) (mfr_R hr29.2.1 (by omega) hRo), zput_s _ _ _ _⟩
    · exfalso; first | (have h5b := h5; omega) | omega
set_option maxRecDepth 20000 in
set_option maxHeartbeats 2000000 in
theorem sX10_weighNow_f {l : Launch} {w : zW} (hfl : l.stackTraces = false) {σ : zS} {D : zBk} {x y : Int} (hz : zOK σ) (hW : WF D) (hR : Rel D (σ.1 262)) (hx : zr x) (hy : zr y) (hw : ¬ (0 ≤ x ∧ x < D 12 0)) : Sp l w mX10_weighNow 2 0 [zf 10 261, zi x, zi y] σ (zret (zi (zb False)) σ) := by
  obtain ⟨Q, hQ⟩ : ∃ Q : zQ, Q = (zret (zi (zb False)) σ) := ⟨_, rfl⟩
  rw [← hQ]
  refine zx_enter hfl (by decide) rfl 0 rfl ?_
  show zX l w mX10_weighNow (zMQ w 2 0 Q) 0 [zf 10 261, zi x, zi y] [] 0 σ
  have hP : 0 ≤ D 1 0 ∧ D 1 0 ≤ 8 := hW.1.1
  have hM : 0 ≤ D 1 7 ∧ D 1 7 ≤ 8 := hW.1.2.1
  have hE : 0 ≤ D 1 10 ∧ D 1 10 ≤ 12 := hW.1.2.2.1
  have hK : 0 ≤ D 12 0 ∧ D 12 0 ≤ 40 := hW.1.2.2.2
  have r0 : σ.1 262 0 = D 1 0 := hR.1.1
  have r1 : σ.1 262 1 = D 1 7 := hR.1.2.1
  have r2 : σ.1 262 2 = D 1 10 := hR.1.2.2.1
  have r3 : σ.1 262 3 = D 12 0 := hR.1.2.2.2
  refine zx_aloadN dX10_weighNow_0 rfl rfl ?_
  refine zx_iloadN dX10_weighNow_1 rfl rfl ?_
  refine zy_cv [zi x] (sX10_isClue (D := D) hfl hz (by first | assumption | omega) (by first | assumption | (refine Rel_put (by decide) ?_; assumption) | (refine Rel_put (by decide) (Rel_put (by decide) ?_); assumption) | (refine Rel_put (by decide) (Rel_put (by decide) (Rel_put (by decide) ?_)); assumption)) (by first | exact hz _ _ | assumption | exact zr_b _ | exact zcmp_r _ _ | (unfold zr at *; omega))) dX10_weighNow_2 (by decide) rfl cw_RX10_205 okX10_isClue rfl (Nat.le_of_ble_eq_true rfl) ⟨Nat.le_of_ble_eq_true rfl, Nat.le_of_ble_eq_true rfl, Nat.le_of_ble_eq_true rfl, Nat.le_of_ble_eq_true rfl⟩ ?_
  refine zx_if_ne (tgt := 10) (by first | exact hz _ _ | assumption | exact zr_b _ | exact zcmp_r _ _ | (unfold zr at *; omega)) dX10_weighNow_5 (by decide) (fun h5 => ?_) (fun h5 => ?_)
  · have h5 := zb_n.mp h5
    exact absurd h5 hw
  · have h5 := zb_0.mp h5
    refine zx_iconst dX10_weighNow_8 ?_
    refine zx_iret rfl rfl dX10_weighNow_9 ?_
    rw [hQ]
    refine ⟨congrArg (fun z : Int => (Sum.inl (some (zi z)) : Option zV ⊕ String)) ?_, by first | rfl | (exfalso; omega)⟩
    exact (zb_f (fun q => q)).symm
set_option maxRecDepth 20000 in
set_option maxHeartbeats 2000000 in
theorem sX10_weighNow {l : Launch} {w : zW} (hfl : l.stackTraces = false) {σ : zS} {D : zBk} {x y : Int} (hz : zOK σ) (hW : WF D) (hR : Rel D (σ.1 262)) (hx : zr x) (hy : zr y) (hw : 0 ≤ x ∧ x < D 12 0) : Sp l w mX10_weighNow 2 0 [zf 10 261, zi x, zi y] σ (zqv (some (zi (zb True))) (fun τ => zOK τ ∧ mfr σ τ (fun k => k = 262) (fun i => i = 14) ∧ Rel (ov D 16 x.toNat y) (τ.1 262) ∧ τ.1 261 14 = D 16 x.toNat)) := by
  obtain ⟨Q, hQ⟩ : ∃ Q : zQ, Q = (zqv (some (zi (zb True))) (fun τ => zOK τ ∧ mfr σ τ (fun k => k = 262) (fun i => i = 14) ∧ Rel (ov D 16 x.toNat y) (τ.1 262) ∧ τ.1 261 14 = D 16 x.toNat)) := ⟨_, rfl⟩
  rw [← hQ]
  refine zx_enter hfl (by decide) rfl 0 rfl ?_
  show zX l w mX10_weighNow (zMQ w 2 0 Q) 0 [zf 10 261, zi x, zi y] [] 0 σ
  have hP : 0 ≤ D 1 0 ∧ D 1 0 ≤ 8 := hW.1.1
  have hM : 0 ≤ D 1 7 ∧ D 1 7 ≤ 8 := hW.1.2.1
  have hE : 0 ≤ D 1 10 ∧ D 1 10 ≤ 12 := hW.1.2.2.1
  have hK : 0 ≤ D 12 0 ∧ D 12 0 ≤ 40 := hW.1.2.2.2
  have r0 : σ.1 262 0 = D 1 0 := hR.1.1
  have r1 : σ.1 262 1 = D 1 7 := hR.1.2.1
  have r2 : σ.1 262 2 = D 1 10 := hR.1.2.2.1
  have r3 : σ.1 262 3 = D 12 0 := hR.1.2.2.2
  have hw9 := (hW.2.2.2.2.1 x.toNat (by omega)).2.2.1
  have hz16 : zr (D 16 x.toNat) := by unfold zr; omega
  refine zx_aloadN dX10_weighNow_0 rfl rfl ?_
  refine zx_iloadN dX10_weighNow_1 rfl rfl ?_
  refine zy_cv [zi x] (sX10_isClue (D := D) hfl hz (by first | assumption | omega) (by first | assumption | (refine Rel_put (by decide) ?_; assumption) | (refine Rel_put (by decide) (Rel_put (by decide) ?_); assumption) | (refine Rel_put (by decide) (Rel_put (by decide) (Rel_put (by decide) ?_)); assumption)) (by first | exact hz _ _ | assumption | exact zr_b _ | exact zcmp_r _ _ | (unfold zr at *; omega))) dX10_weighNow_2 (by decide) rfl cw_RX10_205 okX10_isClue rfl (Nat.le_of_ble_eq_true rfl) ⟨Nat.le_of_ble_eq_true rfl, Nat.le_of_ble_eq_true rfl, Nat.le_of_ble_eq_true rfl, Nat.le_of_ble_eq_true rfl⟩ ?_
  refine zx_if_ne (tgt := 10) (by first | exact hz _ _ | assumption | exact zr_b _ | exact zcmp_r _ _ | (unfold zr at *; omega)) dX10_weighNow_5 (by decide) (fun h5 => ?_) (fun h5 => ?_)
  · have h5 := zb_n.mp h5
    refine zx_aloadN dX10_weighNow_10 rfl rfl ?_
    refine zx_aloadN dX10_weighNow_11 rfl rfl ?_
    refine zx_iloadN dX10_weighNow_12 rfl rfl ?_
    refine zy_top (b := ((x.toNat : Nat) : Int)) (by omega) ?_
    refine zx_iconst dX10_weighNow_13 ?_
    refine zy_cv [zi ((x.toNat : Nat) : Int), zi 3] (sX10_of (D := D) (c := x.toNat) (o := 3) hfl hz (by first | assumption | omega) (by first | assumption | (refine Rel_put (by decide) ?_; assumption) | (refine Rel_put (by decide) (Rel_put (by decide) ?_); assumption) | (refine Rel_put (by decide) (Rel_put (by decide) (Rel_put (by decide) ?_)); assumption)) (by first | assumption | omega) (by first | assumption | omega)) dX10_weighNow_14 (by decide) rfl cw_RX10_102 okX10_of rfl (Nat.le_of_ble_eq_true rfl) ⟨Nat.le_of_ble_eq_true rfl, Nat.le_of_ble_eq_true rfl, Nat.le_of_ble_eq_true rfl, Nat.le_of_ble_eq_true rfl⟩ ?_
    refine zy_top (b := D 16 x.toNat) rfl ?_
    refine zx_putI fl_RX10_195 rfl (Or.inl fp_10_14) dX10_weighNow_17 ?_
    refine zx_aloadN dX10_weighNow_20 rfl rfl ?_
    refine zx_iloadN dX10_weighNow_21 rfl rfl ?_
    refine zy_top (b := ((x.toNat : Nat) : Int)) (by omega) ?_
    refine zx_iconst dX10_weighNow_22 ?_
    refine zx_iloadN dX10_weighNow_23 rfl rfl ?_
    refine zy_cvv [zi ((x.toNat : Nat) : Int), zi 3, zi y] (sX10_puts (c := x.toNat) (o := 3) hfl (zOK_put hz (by first | exact hz _ _ | assumption | exact zr_b _ | exact zcmp_r _ _ | (unfold zr at *; omega))) (by first | assumption | omega) (by first | assumption | omega) (by first | exact hz _ _ | assumption | exact zr_b _ | exact zcmp_r _ _ | (unfold zr at *; omega))) dX10_weighNow_24 (by decide) rfl cw_RX10_175 okX10_puts rfl (Nat.le_of_ble_eq_true rfl) ⟨Nat.le_of_ble_eq_true rfl, Nat.le_of_ble_eq_true rfl, Nat.le_of_ble_eq_true rfl, Nat.le_of_ble_eq_true rfl⟩ ?_
    refine zx_iconst dX10_weighNow_27 ?_
    refine zx_iret rfl rfl dX10_weighNow_28 ?_
    rw [hQ]
    refine ⟨congrArg (fun z : Int => (Sum.inl (some (zi z)) : Option zV ⊕ String)) ?_, ?_⟩
    · exact (zb_t trivial).symm
    exact ⟨(zOK_put (zOK_put hz (by first | exact hz _ _ | assumption | exact zr_b _ | exact zcmp_r _ _ | (unfold zr at *; omega))) (by first | assumption | exact zr_t _ | (unfold zr; omega))), mfr_put (mfr_mo (mfr_put261 (mfr_rf σ (fun k => k = 262) (fun _ => False))) (fun k q => q) (fun i q => by rcases q with q | q; exact absurd q id; exact q)) rfl (by decide), Rel_putK (o := 3) hW (Rel_put (by decide) hR) (by omega) (by decide), (zput_k _ _ _ _ _ (by decide)).trans (zput_s _ _ _ _)⟩
  · have h5 := zb_0.mp h5
    exact absurd hw h5
set_option maxRecDepth 20000 in
set_option maxHeartbeats 2000000 in
theorem sX10_gets {l : Launch} {w : zW} (hfl : l.stackTraces = false) {σ : zS} {D : zBk} {p o : Nat} {y : Int} (hz : zOK σ) (hW : WF D) (hR : Rel D (σ.1 262)) (hp : (p : Int) < D 1 0) (ho : 10 ≤ o ∧ o ≤ 11) (hy : zr y) : Sp l w mX10_gets 1 0 [zf 10 261, zi ((p : Nat) : Int), zi ((o : Nat) : Int), zi y] σ (zqv (none) (fun τ => zOK τ ∧ mfr σ τ (fun k => k = 262) (fun _ => False) ∧ Rel (ov D (o - 4) p (zor (D (o - 4) p) (zshl 1 y))) (τ.1 262))) := by
  obtain ⟨Q, hQ⟩ : ∃ Q : zQ, Q = (zqv (none) (fun τ => zOK τ ∧ mfr σ τ (fun k => k = 262) (fun _ => False) ∧ Rel (ov D (o - 4) p (zor (D (o - 4) p) (zshl 1 y))) (τ.1 262))) := ⟨_, rfl⟩
  rw [← hQ]
  refine zx_enter hfl (by decide) rfl 0 rfl ?_
  show zX l w mX10_gets (zMQ w 1 0 Q) 0 [zf 10 261, zi ((p : Nat) : Int), zi ((o : Nat) : Int), zi y] [] 0 σ
  have hP : 0 ≤ D 1 0 ∧ D 1 0 ≤ 8 := hW.1.1
  have hM : 0 ≤ D 1 7 ∧ D 1 7 ≤ 8 := hW.1.2.1
  have hE : 0 ≤ D 1 10 ∧ D 1 10 ≤ 12 := hW.1.2.2.1
  have hK : 0 ≤ D 12 0 ∧ D 12 0 ≤ 40 := hW.1.2.2.2
  have r0 : σ.1 262 0 = D 1 0 := hR.1.1
  have r1 : σ.1 262 1 = D 1 7 := hR.1.2.1
  have r2 : σ.1 262 2 = D 1 10 := hR.1.2.2.1
  have r3 : σ.1 262 3 = D 12 0 := hR.1.2.2.2
  have hzp : ∀ o, 7 ≤ o → o ≤ 11 → zr (D (o - 4) p) := fun o h1 h2 => by rw [← (hR.2.1 p hp).2 o h1 h2]; exact hz _ _
  have hz0 := hzp o (by omega) (by omega)
  refine zx_aloadN dX10_gets_0 rfl rfl ?_
  refine zx_iloadN dX10_gets_1 rfl rfl ?_
  refine zx_iloadN dX10_gets_2 rfl rfl ?_
  refine zx_aloadN dX10_gets_3 rfl rfl ?_
  refine zx_iloadN dX10_gets_4 rfl rfl ?_
  refine zx_iloadN dX10_gets_5 rfl rfl ?_
  refine zy_cv [zi ((p : Nat) : Int), zi ((o : Nat) : Int)] (sX10_ofPrinter (D := D) (p := p) (o := o) hfl hz (by first | assumption | omega) (by first | assumption | (refine Rel_put (by decide) ?_; assumption) | (refine Rel_put (by decide) (Rel_put (by decide) ?_); assumption) | (refine Rel_put (by decide) (Rel_put (by decide) (Rel_put (by decide) ?_)); assumption)) (by first | assumption | omega) (by first | assumption | omega)) dX10_gets_6 (by decide) rfl cw_RX10_82 okX10_ofPrinter rfl (Nat.le_of_ble_eq_true rfl) ⟨Nat.le_of_ble_eq_true rfl, Nat.le_of_ble_eq_true rfl, Nat.le_of_ble_eq_true rfl, Nat.le_of_ble_eq_true rfl⟩ ?_
  refine zx_iconst dX10_gets_9 ?_
  refine zx_iloadN dX10_gets_10 rfl rfl ?_
  refine zx_ishl dX10_gets_11 ?_
  refine zx_ior dX10_gets_12 ?_
  refine zy_cvv [zi ((p : Nat) : Int), zi ((o : Nat) : Int), zi (zor (D (o - 4) p) (zshl 1 y))] (sX10_putsPrinter (c := p) (o := o) hfl hz (by first | assumption | omega) (by first | assumption | omega) (by first | exact hz _ _ | assumption | exact zr_b _ | exact zcmp_r _ _ | exact zr_t _ | (unfold zr at *; omega))) dX10_gets_13 (by decide) rfl cw_RX10_98 okX10_putsPrinter rfl (Nat.le_of_ble_eq_true rfl) ⟨Nat.le_of_ble_eq_true rfl, Nat.le_of_ble_eq_true rfl, Nat.le_of_ble_eq_true rfl, Nat.le_of_ble_eq_true rfl⟩ ?_
  refine zx_vret rfl dX10_gets_16 ?_
  rw [hQ]
  refine ⟨rfl, ?_⟩
  exact ⟨(zOK_put hz (by first | assumption | exact zr_t _ | (unfold zr; omega))), mfr_put (mfr_rf _ _ _) rfl (by decide), Rel_putP hW hR hp ho⟩
set_option maxRecDepth 20000 in
set_option maxHeartbeats 2000000 in
theorem sX10_lendNow_f {l : Launch} {w : zW} (hfl : l.stackTraces = false) {σ : zS} {D : zBk} {x y u : Int} (hz : zOK σ) (hW : WF D) (hR : Rel D (σ.1 262)) (hx : zr x) (hy : zr y) (hu : zr u) (hv : (0 ≤ x ∧ x < D 1 0) ∧ 0 ≤ y ∧ y < D 1 0) (hw : ¬ (¬ x = y ∧ hasDev D x.toNat u)) : Sp l w mX10_lendNow 4 0 [zf 10 261, zi x, zi y, zi u] σ (zret (zi (zb False)) σ) := by
  obtain ⟨Q, hQ⟩ : ∃ Q : zQ, Q = (zret (zi (zb False)) σ) := ⟨_, rfl⟩
  rw [← hQ]
  refine zx_enter hfl (by decide) rfl 0 rfl ?_
  show zX l w mX10_lendNow (zMQ w 4 0 Q) 0 [zf 10 261, zi x, zi y, zi u] [] 0 σ
  have hP : 0 ≤ D 1 0 ∧ D 1 0 ≤ 8 := hW.1.1
  have hM : 0 ≤ D 1 7 ∧ D 1 7 ≤ 8 := hW.1.2.1
  have hE : 0 ≤ D 1 10 ∧ D 1 10 ≤ 12 := hW.1.2.2.1
  have hK : 0 ≤ D 12 0 ∧ D 12 0 ≤ 40 := hW.1.2.2.2
  have r0 : σ.1 262 0 = D 1 0 := hR.1.1
  have r1 : σ.1 262 1 = D 1 7 := hR.1.2.1
  have r2 : σ.1 262 2 = D 1 10 := hR.1.2.2.1
  have r3 : σ.1 262 3 = D 12 0 := hR.1.2.2.2
  have ex : x = ((x.toNat : Nat) : Int) := by omega
  have ey : y = ((y.toNat : Nat) : Int) := by omega
  have hz6 : zr (D 6 x.toNat) := by rw [← (hR.2.1 x.toNat (by omega)).2 10 (by omega) (by omega)]; exact hz _ _
  refine zx_iloadN dX10_lendNow_0 rfl rfl ?_
  refine zx_iloadN dX10_lendNow_1 rfl rfl ?_
  refine zx_icmp_eq (tgt := 14) (by first | exact hz _ _ | assumption | exact zr_b _ | exact zcmp_r _ _ | (unfold zr at *; omega)) (by first | exact hz _ _ | assumption | exact zr_b _ | exact zcmp_r _ _ | (unfold zr at *; omega)) dX10_lendNow_2 (by decide) (fun h2 => ?_) (fun h2 => ?_)
  · refine zx_iconst dX10_lendNow_14 ?_
    refine zx_iret rfl rfl dX10_lendNow_15 ?_
    rw [hQ]
    refine ⟨congrArg (fun z : Int => (Sum.inl (some (zi z)) : Option zV ⊕ String)) ?_, by first | rfl | (exfalso; omega)⟩
    exact (zb_f (fun q => q)).symm
  · refine zx_aloadN dX10_lendNow_5 rfl rfl ?_
    refine zx_iloadN dX10_lendNow_6 rfl rfl ?_
    refine zy_top (b := ((x.toNat : Nat) : Int)) (ex) ?_
    refine zx_iloadN dX10_lendNow_7 rfl rfl ?_
    refine zy_cv [zi ((x.toNat : Nat) : Int), zi u] (sX10_ownsDevice (D := D) (p := x.toNat) hfl hz (by first | assumption | omega) (by first | assumption | (refine Rel_put (by decide) ?_; assumption) | (refine Rel_put (by decide) (Rel_put (by decide) ?_); assumption) | (refine Rel_put (by decide) (Rel_put (by decide) (Rel_put (by decide) ?_)); assumption)) (by first | assumption | omega) (by first | exact hz _ _ | assumption | exact zr_b _ | exact zcmp_r _ _ | (unfold zr at *; omega))) dX10_lendNow_8 (by decide) rfl cw_RX10_90 okX10_ownsDevice rfl (Nat.le_of_ble_eq_true rfl) ⟨Nat.le_of_ble_eq_true rfl, Nat.le_of_ble_eq_true rfl, Nat.le_of_ble_eq_true rfl, Nat.le_of_ble_eq_true rfl⟩ ?_
    refine zx_if_ne (tgt := 16) (by first | exact hz _ _ | assumption | exact zr_b _ | exact zcmp_r _ _ | (unfold zr at *; omega)) dX10_lendNow_11 (by decide) (fun h11 => ?_) (fun h11 => ?_)
    · have h11 := zb_n.mp h11
      exact absurd ⟨by assumption, by assumption⟩ hw
    · have h11 := zb_0.mp h11
      refine zx_iconst dX10_lendNow_14 ?_
      refine zx_iret rfl rfl dX10_lendNow_15 ?_
      rw [hQ]
      refine ⟨congrArg (fun z : Int => (Sum.inl (some (zi z)) : Option zV ⊕ String)) ?_, by first | rfl | (exfalso; omega)⟩
      exact (zb_f (fun q => q)).symm
set_option maxRecDepth 20000 in
set_option maxHeartbeats 2000000 in
theorem sX10_lendNow {l : Launch} {w : zW} (hfl : l.stackTraces = false) {σ : zS} {D : zBk} {x y u : Int} (hz : zOK σ) (hW : WF D) (hR : Rel D (σ.1 262)) (hx : zr x) (hy : zr y) (hu : zr u) (hv : (0 ≤ x ∧ x < D 1 0) ∧ 0 ≤ y ∧ y < D 1 0) (hw : ¬ x = y ∧ hasDev D x.toNat u) : Sp l w mX10_lendNow 4 0 [zf 10 261, zi x, zi y, zi u] σ (zqv (some (zi (zb True))) (fun τ => zOK τ ∧ mfr σ τ (fun k => k = 262) (fun i => i = 14) ∧ Rel (lnB D x.toNat y.toNat u) (τ.1 262) ∧ τ.1 261 14 = zs (fun p => zb (hasDev (lnB D x.toNat y.toNat u) p u)) (D 1 0).toNat)) := by
  obtain ⟨Q, hQ⟩ : ∃ Q : zQ, Q = (zqv (some (zi (zb True))) (fun τ => zOK τ ∧ mfr σ τ (fun k => k = 262) (fun i => i = 14) ∧ Rel (lnB D x.toNat y.toNat u) (τ.1 262) ∧ τ.1 261 14 = zs (fun p => zb (hasDev (lnB D x.toNat y.toNat u) p u)) (D 1 0).toNat)) := ⟨_, rfl⟩
  rw [← hQ]
  refine zx_enter hfl (by decide) rfl 0 rfl ?_
  show zX l w mX10_lendNow (zMQ w 4 0 Q) 0 [zf 10 261, zi x, zi y, zi u] [] 0 σ
  have hP : 0 ≤ D 1 0 ∧ D 1 0 ≤ 8 := hW.1.1
  have hM : 0 ≤ D 1 7 ∧ D 1 7 ≤ 8 := hW.1.2.1
  have hE : 0 ≤ D 1 10 ∧ D 1 10 ≤ 12 := hW.1.2.2.1
  have hK : 0 ≤ D 12 0 ∧ D 12 0 ≤ 40 := hW.1.2.2.2
  have r0 : σ.1 262 0 = D 1 0 := hR.1.1
  have r1 : σ.1 262 1 = D 1 7 := hR.1.2.1
  have r2 : σ.1 262 2 = D 1 10 := hR.1.2.2.1
  have r3 : σ.1 262 3 = D 12 0 := hR.1.2.2.2
  have ex : x = ((x.toNat : Nat) : Int) := by omega
  have ey : y = ((y.toNat : Nat) : Int) := by omega
  have hz6 : zr (D 6 x.toNat) := by rw [← (hR.2.1 x.toNat (by omega)).2 10 (by omega) (by omega)]; exact hz _ _
  have hW1 : WF (ov D 6 x.toNat (zand (D 6 x.toNat) (zxor (zshl 1 u) (-1)))) := WF_ov7 hW (Or.inl rfl)
  have hWl : WF (lnB D x.toNat y.toNat u) := WF_agree hW (fun o i h1 _ _ _ => by unfold lnB; rw [if_neg h1]) (fun c hc => (hW.2.2.2.2.1 c hc).2.2)
  have hob := zsb_le (fun p => hasDev (lnB D x.toNat y.toNat u) p u) (D 1 0).toNat
  refine zx_iloadN dX10_lendNow_0 rfl rfl ?_
  refine zx_iloadN dX10_lendNow_1 rfl rfl ?_
  refine zx_icmp_eq (tgt := 14) (by first | exact hz _ _ | assumption | exact zr_b _ | exact zcmp_r _ _ | exact zr_t _ | (unfold zr at *; omega)) (by first | exact hz _ _ | assumption | exact zr_b _ | exact zcmp_r _ _ | exact zr_t _ | (unfold zr at *; omega)) dX10_lendNow_2 (by decide) (fun h2 => ?_) (fun h2 => ?_)
  · exfalso; first | exact absurd (by assumption) hw.1 | exact absurd hw.2 (by assumption)
  · refine zx_aloadN dX10_lendNow_5 rfl rfl ?_
    refine zx_iloadN dX10_lendNow_6 rfl rfl ?_
    refine zy_top (b := ((x.toNat : Nat) : Int)) (ex) ?_
    refine zx_iloadN dX10_lendNow_7 rfl rfl ?_
    refine zy_cv [zi ((x.toNat : Nat) : Int), zi u] (sX10_ownsDevice (D := D) (p := x.toNat) hfl hz (by first | assumption | omega) (by first | assumption | (refine Rel_put (by decide) ?_; assumption) | (refine Rel_put (by decide) (Rel_put (by decide) ?_); assumption) | (refine Rel_put (by decide) (Rel_put (by decide) (Rel_put (by decide) ?_)); assumption)) (by first | assumption | omega) (by first | exact hz _ _ | assumption | exact zr_b _ | exact zcmp_r _ _ | exact zr_t _ | (unfold zr at *; omega))) dX10_lendNow_8 (by decide) rfl cw_RX10_90 okX10_ownsDevice rfl (Nat.le_of_ble_eq_true rfl) ⟨Nat.le_of_ble_eq_true rfl, Nat.le_of_ble_eq_true rfl, Nat.le_of_ble_eq_true rfl, Nat.le_of_ble_eq_true rfl⟩ ?_
    refine zx_if_ne (tgt := 16) (by first | exact hz _ _ | assumption | exact zr_b _ | exact zcmp_r _ _ | exact zr_t _ | (unfold zr at *; omega)) dX10_lendNow_11 (by decide) (fun h11 => ?_) (fun h11 => ?_)
    · have h11 := zb_n.mp h11
      refine zx_aloadN dX10_lendNow_16 rfl rfl ?_
      refine zx_iloadN dX10_lendNow_17 rfl rfl ?_
      refine zy_top (b := ((x.toNat : Nat) : Int)) (ex) ?_
      refine zx_bipush dX10_lendNow_18 rfl ?_
      refine zy_top (b := ((10 : Nat) : Int)) (rfl) ?_
      refine zx_aloadN dX10_lendNow_20 rfl rfl ?_
      refine zx_iloadN dX10_lendNow_21 rfl rfl ?_
      refine zy_top (b := ((x.toNat : Nat) : Int)) (ex) ?_
      refine zx_bipush dX10_lendNow_22 rfl ?_
      refine zy_top (b := ((10 : Nat) : Int)) (rfl) ?_
      refine zy_cv [zi ((x.toNat : Nat) : Int), zi ((10 : Nat) : Int)] (sX10_ofPrinter (D := D) (p := x.toNat) (o := 10) hfl hz (by first | assumption | omega) (by first | assumption | (refine Rel_put (by decide) ?_; assumption) | (refine Rel_put (by decide) (Rel_put (by decide) ?_); assumption) | (refine Rel_put (by decide) (Rel_put (by decide) (Rel_put (by decide) ?_)); assumption)) (by first | assumption | omega) (by first | assumption | omega)) dX10_lendNow_24 (by decide) rfl cw_RX10_82 okX10_ofPrinter rfl (Nat.le_of_ble_eq_true rfl) ⟨Nat.le_of_ble_eq_true rfl, Nat.le_of_ble_eq_true rfl, Nat.le_of_ble_eq_true rfl, Nat.le_of_ble_eq_true rfl⟩ ?_
      refine zy_top (b := D 6 x.toNat) rfl ?_
      refine zx_iconst dX10_lendNow_27 ?_
      refine zx_iloadN dX10_lendNow_28 rfl rfl ?_
      refine zx_ishl dX10_lendNow_29 ?_
      refine zx_iconst dX10_lendNow_30 ?_
      refine zx_ixor dX10_lendNow_31 ?_
      refine zx_iand dX10_lendNow_32 ?_
      refine zy_cvv [zi ((x.toNat : Nat) : Int), zi ((10 : Nat) : Int), zi (zand (D 6 x.toNat) (zxor (zshl 1 u) (-1)))] (sX10_putsPrinter (c := x.toNat) (o := 10) hfl hz (by first | assumption | omega) (by first | assumption | omega) (by first | exact hz _ _ | assumption | exact zr_b _ | exact zcmp_r _ _ | exact zr_t _ | (unfold zr at *; omega))) dX10_lendNow_33 (by decide) rfl cw_RX10_98 okX10_putsPrinter rfl (Nat.le_of_ble_eq_true rfl) ⟨Nat.le_of_ble_eq_true rfl, Nat.le_of_ble_eq_true rfl, Nat.le_of_ble_eq_true rfl, Nat.le_of_ble_eq_true rfl⟩ ?_
      have hR1 : Rel (ov D 6 x.toNat (zand (D 6 x.toNat) (zxor (zshl 1 u) (-1)))) ((zput σ 262 (4 + 12 * x.toNat + 10) (zand (D 6 x.toNat) (zxor (zshl 1 u) (-1)))).1 262) := Rel_putP (o := 10) hW hR (by omega) (by decide)
      refine zx_aloadN dX10_lendNow_36 rfl rfl ?_
      refine zx_iloadN dX10_lendNow_37 rfl rfl ?_
      refine zy_top (b := ((y.toNat : Nat) : Int)) (ey) ?_
      refine zx_bipush dX10_lendNow_38 rfl ?_
      refine zy_top (b := ((10 : Nat) : Int)) (rfl) ?_
      refine zx_iloadN dX10_lendNow_40 rfl rfl ?_
      refine zy_cvvR [zi ((y.toNat : Nat) : Int), zi ((10 : Nat) : Int), zi u] (sX10_gets (D := (ov D 6 x.toNat (zand (D 6 x.toNat) (zxor (zshl 1 u) (-1))))) (p := y.toNat) (o := 10) hfl (zOK_put hz (by first | assumption | exact zr_t _ | (unfold zr; omega))) hW1 hR1 (show ((y.toNat : Nat) : Int) < D 1 0 by omega) (by decide) (by first | exact hz _ _ | assumption | exact zr_b _ | exact zcmp_r _ _ | exact zr_t _ | (unfold zr at *; omega))) dX10_lendNow_41 (by decide) rfl cw_RX10_211 okX10_gets rfl (Nat.le_of_ble_eq_true rfl) ⟨Nat.le_of_ble_eq_true rfl, Nat.le_of_ble_eq_true rfl, Nat.le_of_ble_eq_true rfl, Nat.le_of_ble_eq_true rfl⟩ (fun τ41 hr41 => ?_)
      have hz41 : zOK τ41 := hr41.1
      have hRl : Rel (lnB D x.toNat y.toNat u) (τ41.1 262) := Rel_l (ln_lEq (fun q => hw.1 (by omega))) hr41.2.2
      refine zx_aloadN dX10_lendNow_44 rfl rfl ?_
      refine zx_aloadN dX10_lendNow_45 rfl rfl ?_
      refine zx_iloadN dX10_lendNow_46 rfl rfl ?_
      refine zy_cv [zi u] (sX10_owners (D := (lnB D x.toNat y.toNat u)) hfl hz41 hWl hRl (by first | exact hz41 _ _ | assumption | exact zr_b _ | exact zcmp_r _ _ | exact zr_t _ | (unfold zr at *; omega))) dX10_lendNow_47 (by decide) rfl cw_RX10_214 okX10_owners rfl (Nat.le_of_ble_eq_true rfl) ⟨Nat.le_of_ble_eq_true rfl, Nat.le_of_ble_eq_true rfl, Nat.le_of_ble_eq_true rfl, Nat.le_of_ble_eq_true rfl⟩ ?_
      refine zy_top (b := zs (fun p => zb (hasDev (lnB D x.toNat y.toNat u) p u)) (D 1 0).toNat) (rfl) ?_
      refine zx_putI fl_RX10_195 rfl (Or.inl fp_10_14) dX10_lendNow_50 ?_
      refine zx_iconst dX10_lendNow_53 ?_
      refine zx_iret rfl rfl dX10_lendNow_54 ?_
      rw [hQ]
      refine ⟨congrArg (fun z : Int => (Sum.inl (some (zi z)) : Option zV ⊕ String)) ?_, ?_⟩
      · exact (zb_t trivial).symm
      have m1 : mfr σ (zput σ 262 (4 + 12 * x.toNat + 10) (zand (D 6 x.toNat) (zxor (zshl 1 u) (-1)))) (fun k => k = 262) (fun _ => False) := mfr_put (mfr_rf _ _ _) rfl (by decide)
      have m2 := mfr_tr (A'' := fun k => k = 262) (F'' := fun _ => False) m1 hr41.2.1 (fun k q => q.elim id id) (fun i q => q.elim id id)
      exact ⟨(zOK_put hz41 (by first | exact hz41 _ _ | assumption | exact zr_b _ | exact zcmp_r _ _ | exact zr_t _ | (unfold zr at *; omega))), mfr_mo (mfr_put261 m2) (fun k q => q) (fun i q => by rcases q with q | q; exact absurd q id; exact q), Rel_put (by decide) hRl, zput_s _ _ _ _⟩
    · have h11 := zb_0.mp h11
      exfalso; first | exact absurd (by assumption) hw.1 | exact absurd hw.2 (by assumption)
set_option maxRecDepth 20000 in
set_option maxHeartbeats 2000000 in
theorem sX10_cleanNow {l : Launch} {w : zW} (hfl : l.stackTraces = false) {σ : zS} {D : zBk}  (hz : zOK σ) (hW : WF D) (hR : Rel D (σ.1 262)) (hP1 : 1 ≤ D 1 0) : Sp l w mX10_cleanNow 11 0 [zf 10 261] σ (zqv (some (zi (zb True))) (fun τ => zOK τ ∧ mfr σ τ (fun k => k = 262 ∨ k = 267 ∨ k = 268) (fun i => (9 ≤ i ∧ i ≤ 11) ∨ i = 13 ∨ i = 14) ∧ Rel (clB D) (τ.1 262) ∧ τ.1 261 14 = zs (fun c => zb (opn D c)) (D 12 0).toNat)) := by
  obtain ⟨Q, hQ⟩ : ∃ Q : zQ, Q = (zqv (some (zi (zb True))) (fun τ => zOK τ ∧ mfr σ τ (fun k => k = 262 ∨ k = 267 ∨ k = 268) (fun i => (9 ≤ i ∧ i ≤ 11) ∨ i = 13 ∨ i = 14) ∧ Rel (clB D) (τ.1 262) ∧ τ.1 261 14 = zs (fun c => zb (opn D c)) (D 12 0).toNat)) := ⟨_, rfl⟩
  rw [← hQ]
  refine zx_enter hfl (by decide) rfl 2 rfl ?_
  show zX l w mX10_cleanNow (zMQ w 11 0 Q) 0 [zf 10 261, zu, zu] [] 0 σ
  have hP : 0 ≤ D 1 0 ∧ D 1 0 ≤ 8 := hW.1.1
  have hM : 0 ≤ D 1 7 ∧ D 1 7 ≤ 8 := hW.1.2.1
  have hE : 0 ≤ D 1 10 ∧ D 1 10 ≤ 12 := hW.1.2.2.1
  have hK : 0 ≤ D 12 0 ∧ D 12 0 ≤ 40 := hW.1.2.2.2
  have r0 : σ.1 262 0 = D 1 0 := hR.1.1
  have r1 : σ.1 262 1 = D 1 7 := hR.1.2.1
  have r2 : σ.1 262 2 = D 1 10 := hR.1.2.2.1
  have r3 : σ.1 262 3 = D 12 0 := hR.1.2.2.2
  have hwl := wP_l (H := Ht D) hW hP1
  have hwb := wS_b hW
  have hyb := wY_b hW hP1
  have hzy : zr (wY D (Ht D)) := by unfold zr; omega
  have hob := zsb_le (opn D) (D 12 0).toNat
  refine zx_aloadN dX10_cleanNow_0 rfl rfl ?_
  refine zy_cvR [] (sX10_yearOfVerdict (D := D) hfl hz (by first | assumption | omega) (by first | assumption | (refine Rel_put (by decide) ?_; assumption) | (refine Rel_put (by decide) (Rel_put (by decide) ?_); assumption) | (refine Rel_put (by decide) (Rel_put (by decide) (Rel_put (by decide) ?_)); assumption)) (by first | assumption | omega)) dX10_cleanNow_1 (by decide) rfl cw_RX10_166 okX10_yearOfVerdict rfl (Nat.le_of_ble_eq_true rfl) ⟨Nat.le_of_ble_eq_true rfl, Nat.le_of_ble_eq_true rfl, Nat.le_of_ble_eq_true rfl, Nat.le_of_ble_eq_true rfl⟩ (fun τ1 hr1 => ?_)
  have hz1 : zOK τ1 := hr1.1
  have hRv : Rel D (τ1.1 262) := mfr_R hr1.2.1 (by omega) hR
  have hw13 := hr1.2.2.1
  refine zy_istoreN [zf 10 261, zi (wY D (Ht D)), zu] dX10_cleanNow_4 rfl (Nat.le_of_ble_eq_true rfl) (Nat.le_of_ble_eq_true rfl) rfl rfl ?_
  refine zx_aloadN dX10_cleanNow_5 rfl rfl ?_
  refine zx_aloadN dX10_cleanNow_6 rfl rfl ?_
  refine zx_iloadN dX10_cleanNow_7 rfl rfl ?_
  refine zy_cv [zi (wY D (Ht D))] (sX10_openMany (D := D) (u := (wP D (Ht D))) hfl hz1 (by first | assumption | omega) (by first | assumption | (refine Rel_put (by decide) ?_; assumption) | (refine Rel_put (by decide) (Rel_put (by decide) ?_); assumption) | (refine Rel_put (by decide) (Rel_put (by decide) (Rel_put (by decide) ?_)); assumption)) (by first | assumption | omega) (by first | assumption | omega) (by first | exact hz1 _ _ | assumption | exact zr_b _ | exact zcmp_r _ _ | (unfold zr at *; omega))) dX10_cleanNow_8 (by decide) rfl cw_RX10_217 okX10_openMany rfl (Nat.le_of_ble_eq_true rfl) ⟨Nat.le_of_ble_eq_true rfl, Nat.le_of_ble_eq_true rfl, Nat.le_of_ble_eq_true rfl, Nat.le_of_ble_eq_true rfl⟩ ?_
  refine zy_top (b := zs (fun c => zb (opn D c)) (D 12 0).toNat) (zs_congr (fun c _ => zb_c (opn_e hW hP1 c))) ?_
  refine zx_putI fl_RX10_195 rfl (Or.inl fp_10_14) dX10_cleanNow_11 ?_
  refine zx_iconst dX10_cleanNow_14 ?_
  refine zy_istoreN [zf 10 261, zi (wY D (Ht D)), zi 0] dX10_cleanNow_15 rfl (Nat.le_of_ble_eq_true rfl) (Nat.le_of_ble_eq_true rfl) rfl rfl ?_
  have L16 : ∀ (N : Nat) (τ : zS) (c : Nat), (zOK τ) → ((c : Int) ≤ D 12 0) → (mfr σ τ (fun k => k = 262 ∨ k = 267 ∨ k = 268) (fun i => (9 ≤ i ∧ i ≤ 11) ∨ i = 13 ∨ i = 14)) → (Rel (clP D c) (τ.1 262)) → (τ.1 261 13 = wP D (Ht D) ∧ τ.1 261 14 = zs (fun c => zb (opn D c)) (D 12 0).toNat) → (41 - c) < N → zX l w mX10_cleanNow (zMQ w 11 0 Q) 16 [zf 10 261, zi (wY D (Ht D)), zi ((c : Nat) : Int)] [] 0 τ := by
    intro N
    induction N with
    | zero => intro τ c _ _ _ _ _ _; exact absurd (by assumption) (Nat.not_lt_zero _)
    | succ N ih16 =>
      intro τ c hz hc_ h1 h2 h3 hN
      have hWc := WF_clP hW c
      have v3 : τ.1 262 3 = D 12 0 := h2.1.2.2.2
      have h13 := h3.1
      refine zx_iloadN dX10_cleanNow_16 rfl rfl ?_
      refine zx_aloadN dX10_cleanNow_17 rfl rfl ?_
      refine zy_getR (q' := 262) fl_RX10_7 rfl dX10_cleanNow_18 rfl ?_
      refine zx_iconst dX10_cleanNow_21 ?_
      refine zy_iald (v := τ.1 262 3) rfl (by decide) (by decide) dX10_cleanNow_22 (by omega) (by omega) rfl ?_
      refine zx_icmp_ge (tgt := 48) (by first | exact hz _ _ | assumption | exact zr_b _ | exact zcmp_r _ _ | (unfold zr at *; omega)) (by first | exact hz _ _ | assumption | exact zr_b _ | exact zcmp_r _ _ | (unfold zr at *; omega)) dX10_cleanNow_23 (by decide) (fun h23 => ?_) (fun h23 => ?_)
      · refine zx_iconst dX10_cleanNow_48 ?_
        refine zx_iret rfl rfl dX10_cleanNow_49 ?_
        rw [hQ]
        refine ⟨congrArg (fun z : Int => (Sum.inl (some (zi z)) : Option zV ⊕ String)) ?_, ?_⟩
        · exact (zb_t trivial).symm
        have e : c = (D 12 0).toNat := by omega
        exact ⟨hz, h1, Rel_l (clP_e hW) (e ▸ h2), h3.2⟩
      · refine zx_aloadN dX10_cleanNow_26 rfl rfl ?_
        refine zx_iloadN dX10_cleanNow_27 rfl rfl ?_
        refine zx_iloadN dX10_cleanNow_28 rfl rfl ?_
        refine zy_cv [zi ((c : Nat) : Int), zi (wY D (Ht D))] (sX10_isOpen (D := (clP D c)) (u := (wP D (Ht D))) hfl hz hWc h2 (show (c : Int) < D 12 0 by omega) h13 (show ((wP D (Ht D) : Nat) : Int) < D 1 0 from hwl) (by first | exact hz _ _ | assumption | exact zr_b _ | exact zcmp_r _ _ | (unfold zr at *; omega))) dX10_cleanNow_29 (by decide) rfl cw_RX10_178 okX10_isOpen rfl (Nat.le_of_ble_eq_true rfl) ⟨Nat.le_of_ble_eq_true rfl, Nat.le_of_ble_eq_true rfl, Nat.le_of_ble_eq_true rfl, Nat.le_of_ble_eq_true rfl⟩ ?_
        refine zy_top (b := zb (opn D c)) (zb_c (opn_clP hW hP1 c)) ?_
        refine zx_if_eq (tgt := 42) (by first | exact hz _ _ | assumption | exact zr_b _ | exact zcmp_r _ _ | (unfold zr at *; omega)) dX10_cleanNow_32 (by decide) (fun h32 => ?_) (fun h32 => ?_)
        · have h32 := zb_0.mp h32
          refine zy_iinc (b := ((c + 1 : Nat) : Int)) [zf 10 261, zi (wY D (Ht D)), zi ((c + 1 : Nat) : Int)] dX10_cleanNow_42 rfl (by omega) (Nat.le_of_ble_eq_true rfl) rfl rfl ?_
          refine zx_goto (tgt := 16) dX10_cleanNow_45 (by decide) ?_
          exact ih16 τ (c + 1) hz (by first | assumption | omega) (by first | exact mfr_put h1 (Or.inl rfl) (by decide) | exact h1) (by first | exact Rel_l (clP_t h32) (Rel_putK (o := 5) hWc h2 (by show (c : Int) < D 12 0; omega) (by decide)) | exact Rel_l (clP_f h32) h2) (by first | exact h3 | exact ⟨(zput_k _ _ _ _ _ (by omega)).trans h3.1, (zput_k _ _ _ _ _ (by omega)).trans h3.2⟩) (by omega)
        · have h32 := zb_n.mp h32
          refine zx_aloadN dX10_cleanNow_35 rfl rfl ?_
          refine zx_iloadN dX10_cleanNow_36 rfl rfl ?_
          refine zx_iconst dX10_cleanNow_37 ?_
          refine zx_iconst dX10_cleanNow_38 ?_
          refine zy_cvv [zi ((c : Nat) : Int), zi 5, zi 1] (sX10_puts (c := c) (o := 5) hfl hz (by first | assumption | omega) (by first | assumption | omega) (by first | exact hz _ _ | assumption | exact zr_b _ | exact zcmp_r _ _ | (unfold zr at *; omega))) dX10_cleanNow_39 (by decide) rfl cw_RX10_175 okX10_puts rfl (Nat.le_of_ble_eq_true rfl) ⟨Nat.le_of_ble_eq_true rfl, Nat.le_of_ble_eq_true rfl, Nat.le_of_ble_eq_true rfl, Nat.le_of_ble_eq_true rfl⟩ ?_
          refine zy_iinc (b := ((c + 1 : Nat) : Int)) [zf 10 261, zi (wY D (Ht D)), zi ((c + 1 : Nat) : Int)] dX10_cleanNow_42 rfl (by omega) (Nat.le_of_ble_eq_true rfl) rfl rfl ?_
          refine zx_goto (tgt := 16) dX10_cleanNow_45 (by decide) ?_
          exact ih16 (zput τ 262 (140 + 6 * c + 5) 1) (c + 1) (zOK_put hz (by first | assumption | exact zr_t _ | (unfold zr; omega))) (by first | assumption | omega) (by first | exact mfr_put h1 (Or.inl rfl) (by decide) | exact h1) (by first | exact Rel_l (clP_t h32) (Rel_putK (o := 5) hWc h2 (by show (c : Int) < D 12 0; omega) (by decide)) | exact Rel_l (clP_f h32) h2) (by first | exact h3 | exact ⟨(zput_k _ _ _ _ _ (by omega)).trans h3.1, (zput_k _ _ _ _ _ (by omega)).trans h3.2⟩) (by omega)
  exact L16 _ (zput τ1 261 14 (zs (fun c => zb (opn D c)) (D 12 0).toNat)) 0 (zOK_put hz1 (by first | exact hz1 _ _ | assumption | exact zr_b _ | exact zcmp_r _ _ | (unfold zr at *; omega))) (by first | assumption | omega) (mfr_mo (mfr_put261 hr1.2.1) (fun k q => by omega) (fun i q => by omega)) (Rel_l (clP_0 D) (Rel_put (by decide) hRv)) ⟨(zput_i _ _ _ _ _ (by omega)).trans hw13, (zput_s _ _ _ _)⟩ (Nat.lt_succ_self _)

