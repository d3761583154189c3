abbrev mX1_dependsOnYear : zM := (yX1_dependsOnYear, cX1_dependsOnYear, 2, (some .boolean), [])
theorem okX1_dependsOnYear : zMok mX1_dependsOnYear 1 := ⟨by decide, by decide, by decide +kernel⟩
theorem dX1_dependsOnYear_0 : decode cX1_dependsOnYear 0 = .ok (.aload_n 0, 1) := by decide +kernel
theorem dX1_dependsOnYear_1 : decode cX1_dependsOnYear 1 = .ok (.getfield 21, 3) := by decide +kernel
theorem fl_RX1_21 : zFl RX1 21 1 1 := ⟨RX1, TX1, 2, rfl, by decide, zmem1 207 (by decide +kernel) rfl, rfl⟩
theorem dX1_dependsOnYear_4 : decode cX1_dependsOnYear 4 = .ok (.iload_n 1, 1) := by decide +kernel
theorem dX1_dependsOnYear_5 : decode cX1_dependsOnYear 5 = .ok (.invokevirtual 62, 3) := by decide +kernel
theorem cw_RX1_62 : zCwV RX1 62 mX2_has := zall [829, 512, 513, 36, 514] (by decide +kernel) (by decide +kernel)
theorem dX1_dependsOnYear_8 : decode cX1_dependsOnYear 8 = .ok (.ifCond .eq 33, 3) := by decide +kernel
theorem dX1_dependsOnYear_41 : decode cX1_dependsOnYear 41 = .ok (.iconst 0, 1) := by decide +kernel
theorem dX1_dependsOnYear_42 : decode cX1_dependsOnYear 42 = .ok (.ireturn, 1) := by decide +kernel
theorem dX1_dependsOnYear_11 : decode cX1_dependsOnYear 11 = .ok (.aload_n 0, 1) := by decide +kernel
theorem dX1_dependsOnYear_12 : decode cX1_dependsOnYear 12 = .ok (.getfield 21, 3) := by decide +kernel
theorem dX1_dependsOnYear_15 : decode cX1_dependsOnYear 15 = .ok (.getfield 88, 3) := by decide +kernel
theorem fl_RX1_88 : zFl RX1 88 2 2 := ⟨RX2, TX2, 8, rfl, by decide, zmem1 169 (by decide +kernel) rfl, rfl⟩
theorem dX1_dependsOnYear_18 : decode cX1_dependsOnYear 18 = .ok (.iload_n 1, 1) := by decide +kernel
theorem dX1_dependsOnYear_19 : decode cX1_dependsOnYear 19 = .ok (.iaload, 1) := by decide +kernel
theorem dX1_dependsOnYear_20 : decode cX1_dependsOnYear 20 = .ok (.iconst 2, 1) := by decide +kernel
theorem dX1_dependsOnYear_21 : decode cX1_dependsOnYear 21 = .ok (.if_icmp .eq 16, 3) := by decide +kernel
theorem dX1_dependsOnYear_37 : decode cX1_dependsOnYear 37 = .ok (.iconst 1, 1) := by decide +kernel
theorem dX1_dependsOnYear_38 : decode cX1_dependsOnYear 38 = .ok (.goto 4, 3) := by decide +kernel
theorem dX1_dependsOnYear_24 : decode cX1_dependsOnYear 24 = .ok (.aload_n 0, 1) := by decide +kernel
theorem dX1_dependsOnYear_25 : decode cX1_dependsOnYear 25 = .ok (.getfield 21, 3) := by decide +kernel
theorem dX1_dependsOnYear_28 : decode cX1_dependsOnYear 28 = .ok (.getfield 88, 3) := by decide +kernel
theorem dX1_dependsOnYear_31 : decode cX1_dependsOnYear 31 = .ok (.iload_n 1, 1) := by decide +kernel
theorem dX1_dependsOnYear_32 : decode cX1_dependsOnYear 32 = .ok (.iaload, 1) := by decide +kernel
theorem dX1_dependsOnYear_33 : decode cX1_dependsOnYear 33 = .ok (.iconst 4, 1) := by decide +kernel
theorem dX1_dependsOnYear_34 : decode cX1_dependsOnYear 34 = .ok (.if_icmp .ne 7, 3) := by decide +kernel
abbrev mX1_printerFits : zM := (yX1_printerFits, cX1_printerFits, 4, (some .boolean), [])
theorem okX1_printerFits : zMok mX1_printerFits 2 := ⟨by decide, by decide, by decide +kernel⟩
theorem dX1_printerFits_0 : decode cX1_printerFits 0 = .ok (.aload_n 0, 1) := by decide +kernel
theorem dX1_printerFits_1 : decode cX1_printerFits 1 = .ok (.getfield 12, 3) := by decide +kernel
theorem fl_RX1_12 : zFl RX1 12 1 0 := ⟨RX1, TX1, 2, rfl, by decide, zmem1 203 (by decide +kernel) rfl, rfl⟩
theorem dX1_printerFits_4 : decode cX1_printerFits 4 = .ok (.iload_n 1, 1) := by decide +kernel
theorem dX1_printerFits_5 : decode cX1_printerFits 5 = .ok (.invokevirtual 74, 3) := by decide +kernel
theorem cw_RX1_74 : zCwV RX1 74 mX0_hasPrinter := zall [896, 528, 529, 35, 530] (by decide +kernel) (by decide +kernel)
theorem dX1_printerFits_8 : decode cX1_printerFits 8 = .ok (.ifCond .eq 14, 3) := by decide +kernel
theorem dX1_printerFits_22 : decode cX1_printerFits 22 = .ok (.iconst 0, 1) := by decide +kernel
theorem dX1_printerFits_23 : decode cX1_printerFits 23 = .ok (.ireturn, 1) := by decide +kernel
theorem dX1_printerFits_11 : decode cX1_printerFits 11 = .ok (.aload_n 0, 1) := by decide +kernel
theorem dX1_printerFits_12 : decode cX1_printerFits 12 = .ok (.getfield 21, 3) := by decide +kernel
theorem dX1_printerFits_15 : decode cX1_printerFits 15 = .ok (.iload_n 2, 1) := by decide +kernel
theorem dX1_printerFits_16 : decode cX1_printerFits 16 = .ok (.invokevirtual 62, 3) := by decide +kernel
theorem dX1_printerFits_19 : decode cX1_printerFits 19 = .ok (.ifCond .ne 5, 3) := by decide +kernel
theorem dX1_printerFits_24 : decode cX1_printerFits 24 = .ok (.aload_n 0, 1) := by decide +kernel
theorem dX1_printerFits_25 : decode cX1_printerFits 25 = .ok (.getfield 21, 3) := by decide +kernel
theorem dX1_printerFits_28 : decode cX1_printerFits 28 = .ok (.getfield 91, 3) := by decide +kernel
theorem fl_RX1_91 : zFl RX1 91 2 3 := ⟨RX2, TX2, 8, rfl, by decide, zmem1 172 (by decide +kernel) rfl, rfl⟩
theorem dX1_printerFits_31 : decode cX1_printerFits 31 = .ok (.iload_n 2, 1) := by decide +kernel
theorem dX1_printerFits_32 : decode cX1_printerFits 32 = .ok (.iaload, 1) := by decide +kernel
theorem dX1_printerFits_33 : decode cX1_printerFits 33 = .ok (.istore_n 3, 1) := by decide +kernel
theorem dX1_printerFits_34 : decode cX1_printerFits 34 = .ok (.aload_n 0, 1) := by decide +kernel
theorem dX1_printerFits_35 : decode cX1_printerFits 35 = .ok (.getfield 21, 3) := by decide +kernel
theorem dX1_printerFits_38 : decode cX1_printerFits 38 = .ok (.getfield 88, 3) := by decide +kernel
theorem dX1_printerFits_41 : decode cX1_printerFits 41 = .ok (.iload_n 2, 1) := by decide +kernel
theorem dX1_printerFits_42 : decode cX1_printerFits 42 = .ok (.iaload, 1) := by decide +kernel
theorem dX1_printerFits_43 : decode cX1_printerFits 43 = .ok (.tableswitch 68 0 3 #[29, 39, 68, 49], 29) := by decide +kernel
theorem dX1_printerFits_72 : decode cX1_printerFits 72 = .ok (.aload_n 0, 1) := by decide +kernel
theorem dX1_printerFits_73 : decode cX1_printerFits 73 = .ok (.getfield 12, 3) := by decide +kernel
theorem dX1_printerFits_76 : decode cX1_printerFits 76 = .ok (.iload_n 1, 1) := by decide +kernel
theorem dX1_printerFits_77 : decode cX1_printerFits 77 = .ok (.iload_n 3, 1) := by decide +kernel
theorem dX1_printerFits_78 : decode cX1_printerFits 78 = .ok (.invokevirtual 77, 3) := by decide +kernel
theorem cw_RX1_77 : zCwV RX1 77 mX0_ownsDevice := zall [897, 898, 899, 35, 900] (by decide +kernel) (by decide +kernel)
theorem dX1_printerFits_81 : decode cX1_printerFits 81 = .ok (.ireturn, 1) := by decide +kernel
theorem dX1_printerFits_82 : decode cX1_printerFits 82 = .ok (.aload_n 0, 1) := by decide +kernel
theorem dX1_printerFits_83 : decode cX1_printerFits 83 = .ok (.getfield 12, 3) := by decide +kernel
theorem dX1_printerFits_86 : decode cX1_printerFits 86 = .ok (.iload_n 1, 1) := by decide +kernel
theorem dX1_printerFits_87 : decode cX1_printerFits 87 = .ok (.iload_n 3, 1) := by decide +kernel
theorem dX1_printerFits_88 : decode cX1_printerFits 88 = .ok (.invokevirtual 94, 3) := by decide +kernel
theorem cw_RX1_94 : zCwV RX1 94 mX0_ownsTypeface := zall [901, 902, 903, 35, 904] (by decide +kernel) (by decide +kernel)
theorem dX1_printerFits_91 : decode cX1_printerFits 91 = .ok (.ireturn, 1) := by decide +kernel
theorem dX1_printerFits_111 : decode cX1_printerFits 111 = .ok (.iconst 1, 1) := by decide +kernel
theorem dX1_printerFits_112 : decode cX1_printerFits 112 = .ok (.ireturn, 1) := by decide +kernel
theorem dX1_printerFits_92 : decode cX1_printerFits 92 = .ok (.aload_n 0, 1) := by decide +kernel
theorem dX1_printerFits_93 : decode cX1_printerFits 93 = .ok (.getfield 12, 3) := by decide +kernel
theorem dX1_printerFits_96 : decode cX1_printerFits 96 = .ok (.getfield 97, 3) := by decide +kernel
theorem fl_RX1_97 : zFl RX1 97 0 2 := ⟨RX0, TX0, 13, rfl, by decide, zmem1 111 (by decide +kernel) rfl, rfl⟩
theorem dX1_printerFits_99 : decode cX1_printerFits 99 = .ok (.iload_n 1, 1) := by decide +kernel
theorem dX1_printerFits_100 : decode cX1_printerFits 100 = .ok (.iaload, 1) := by decide +kernel
theorem dX1_printerFits_101 : decode cX1_printerFits 101 = .ok (.iload_n 3, 1) := by decide +kernel
theorem dX1_printerFits_102 : decode cX1_printerFits 102 = .ok (.if_icmp .ne 7, 3) := by decide +kernel
theorem dX1_printerFits_109 : decode cX1_printerFits 109 = .ok (.iconst 0, 1) := by decide +kernel
theorem dX1_printerFits_110 : decode cX1_printerFits 110 = .ok (.ireturn, 1) := by decide +kernel
theorem dX1_printerFits_105 : decode cX1_printerFits 105 = .ok (.iconst 1, 1) := by decide +kernel
theorem dX1_printerFits_106 : decode cX1_printerFits 106 = .ok (.goto 4, 3) := by decide +kernel
abbrev mX1_earliestYear : zM := (yX1_earliestYear, cX1_earliestYear, 3, (some .int), [])
theorem okX1_earliestYear : zMok mX1_earliestYear 1 := ⟨by decide, by decide, by decide +kernel⟩
theorem dX1_earliestYear_0 : decode cX1_earliestYear 0 = .ok (.aload_n 0, 1) := by decide +kernel
theorem dX1_earliestYear_1 : decode cX1_earliestYear 1 = .ok (.iload_n 1, 1) := by decide +kernel
theorem dX1_earliestYear_2 : decode cX1_earliestYear 2 = .ok (.invokevirtual 100, 3) := by decide +kernel
theorem cw_RX1_100 : zCwV RX1 100 mX1_dependsOnYear := zall [860, 853, 854, 34, 855] (by decide +kernel) (by decide +kernel)
theorem dX1_earliestYear_5 : decode cX1_earliestYear 5 = .ok (.ifCond .ne 7, 3) := by decide +kernel
theorem dX1_earliestYear_12 : decode cX1_earliestYear 12 = .ok (.aload_n 0, 1) := by decide +kernel
theorem dX1_earliestYear_13 : decode cX1_earliestYear 13 = .ok (.getfield 21, 3) := by decide +kernel
theorem dX1_earliestYear_16 : decode cX1_earliestYear 16 = .ok (.getfield 91, 3) := by decide +kernel
theorem dX1_earliestYear_19 : decode cX1_earliestYear 19 = .ok (.iload_n 1, 1) := by decide +kernel
theorem dX1_earliestYear_20 : decode cX1_earliestYear 20 = .ok (.iaload, 1) := by decide +kernel
theorem dX1_earliestYear_21 : decode cX1_earliestYear 21 = .ok (.istore_n 2, 1) := by decide +kernel
theorem dX1_earliestYear_22 : decode cX1_earliestYear 22 = .ok (.aload_n 0, 1) := by decide +kernel
theorem dX1_earliestYear_23 : decode cX1_earliestYear 23 = .ok (.getfield 21, 3) := by decide +kernel
theorem dX1_earliestYear_26 : decode cX1_earliestYear 26 = .ok (.getfield 88, 3) := by decide +kernel
theorem dX1_earliestYear_29 : decode cX1_earliestYear 29 = .ok (.iload_n 1, 1) := by decide +kernel
theorem dX1_earliestYear_30 : decode cX1_earliestYear 30 = .ok (.iaload, 1) := by decide +kernel
theorem dX1_earliestYear_31 : decode cX1_earliestYear 31 = .ok (.iconst 4, 1) := by decide +kernel
theorem dX1_earliestYear_32 : decode cX1_earliestYear 32 = .ok (.if_icmp .ne 7, 3) := by decide +kernel
theorem dX1_earliestYear_39 : decode cX1_earliestYear 39 = .ok (.aload_n 0, 1) := by decide +kernel
theorem dX1_earliestYear_40 : decode cX1_earliestYear 40 = .ok (.getfield 12, 3) := by decide +kernel
theorem dX1_earliestYear_43 : decode cX1_earliestYear 43 = .ok (.iload_n 2, 1) := by decide +kernel
theorem dX1_earliestYear_44 : decode cX1_earliestYear 44 = .ok (.invokevirtual 103, 3) := by decide +kernel
theorem cw_RX1_103 : zCwV RX1 103 mX0_watermarkFrom := zall [861, 862, 863, 35, 864] (by decide +kernel) (by decide +kernel)
theorem dX1_earliestYear_47 : decode cX1_earliestYear 47 = .ok (.ireturn, 1) := by decide +kernel
theorem dX1_earliestYear_35 : decode cX1_earliestYear 35 = .ok (.iload_n 2, 1) := by decide +kernel
theorem dX1_earliestYear_36 : decode cX1_earliestYear 36 = .ok (.goto 11, 3) := by decide +kernel
theorem dX1_earliestYear_8 : decode cX1_earliestYear 8 = .ok (.sipush 1450, 3) := by decide +kernel
theorem dX1_earliestYear_11 : decode cX1_earliestYear 11 = .ok (.ireturn, 1) := by decide +kernel
abbrev mX1_latestYear : zM := (yX1_latestYear, cX1_latestYear, 3, (some .int), [])
theorem okX1_latestYear : zMok mX1_latestYear 1 := ⟨by decide, by decide, by decide +kernel⟩
theorem dX1_latestYear_0 : decode cX1_latestYear 0 = .ok (.aload_n 0, 1) := by decide +kernel
theorem dX1_latestYear_1 : decode cX1_latestYear 1 = .ok (.iload_n 1, 1) := by decide +kernel
theorem dX1_latestYear_2 : decode cX1_latestYear 2 = .ok (.invokevirtual 100, 3) := by decide +kernel
theorem dX1_latestYear_5 : decode cX1_latestYear 5 = .ok (.ifCond .ne 7, 3) := by decide +kernel
theorem dX1_latestYear_12 : decode cX1_latestYear 12 = .ok (.aload_n 0, 1) := by decide +kernel
theorem dX1_latestYear_13 : decode cX1_latestYear 13 = .ok (.getfield 21, 3) := by decide +kernel
theorem dX1_latestYear_16 : decode cX1_latestYear 16 = .ok (.getfield 91, 3) := by decide +kernel
theorem dX1_latestYear_19 : decode cX1_latestYear 19 = .ok (.iload_n 1, 1) := by decide +kernel
theorem dX1_latestYear_20 : decode cX1_latestYear 20 = .ok (.iaload, 1) := by decide +kernel
theorem dX1_latestYear_21 : decode cX1_latestYear 21 = .ok (.istore_n 2, 1) := by decide +kernel
theorem dX1_latestYear_22 : decode cX1_latestYear 22 = .ok (.aload_n 0, 1) := by decide +kernel
theorem dX1_latestYear_23 : decode cX1_latestYear 23 = .ok (.getfield 21, 3) := by decide +kernel
theorem dX1_latestYear_26 : decode cX1_latestYear 26 = .ok (.getfield 88, 3) := by decide +kernel
theorem dX1_latestYear_29 : decode cX1_latestYear 29 = .ok (.iload_n 1, 1) := by decide +kernel
theorem dX1_latestYear_30 : decode cX1_latestYear 30 = .ok (.iaload, 1) := by decide +kernel
theorem dX1_latestYear_31 : decode cX1_latestYear 31 = .ok (.iconst 4, 1) := by decide +kernel
theorem dX1_latestYear_32 : decode cX1_latestYear 32 = .ok (.if_icmp .ne 7, 3) := by decide +kernel
theorem dX1_latestYear_39 : decode cX1_latestYear 39 = .ok (.aload_n 0, 1) := by decide +kernel
theorem dX1_latestYear_40 : decode cX1_latestYear 40 = .ok (.getfield 12, 3) := by decide +kernel
theorem dX1_latestYear_43 : decode cX1_latestYear 43 = .ok (.iload_n 2, 1) := by decide +kernel
theorem dX1_latestYear_44 : decode cX1_latestYear 44 = .ok (.invokevirtual 106, 3) := by decide +kernel
theorem cw_RX1_106 : zCwV RX1 106 mX0_watermarkUntil := zall [880, 881, 882, 35, 883] (by decide +kernel) (by decide +kernel)
theorem dX1_latestYear_47 : decode cX1_latestYear 47 = .ok (.ireturn, 1) := by decide +kernel
theorem dX1_latestYear_35 : decode cX1_latestYear 35 = .ok (.iload_n 2, 1) := by decide +kernel
theorem dX1_latestYear_36 : decode cX1_latestYear 36 = .ok (.goto 11, 3) := by decide +kernel
theorem dX1_latestYear_8 : decode cX1_latestYear 8 = .ok (.sipush 1999, 3) := by decide +kernel
theorem dX1_latestYear_11 : decode cX1_latestYear 11 = .ok (.ireturn, 1) := by decide +kernel
abbrev mX1_candidateFits : zM := (yX1_candidateFits, cX1_candidateFits, 4, (some .boolean), [])
theorem okX1_candidateFits : zMok mX1_candidateFits 3 := ⟨by decide, by decide, by decide +kernel⟩
theorem dX1_candidateFits_0 : decode cX1_candidateFits 0 = .ok (.aload_n 0, 1) := by decide +kernel
theorem dX1_candidateFits_1 : decode cX1_candidateFits 1 = .ok (.iload_n 1, 1) := by decide +kernel
theorem dX1_candidateFits_2 : decode cX1_candidateFits 2 = .ok (.iload_n 3, 1) := by decide +kernel
theorem dX1_candidateFits_3 : decode cX1_candidateFits 3 = .ok (.invokevirtual 109, 3) := by decide +kernel
theorem cw_RX1_109 : zCwV RX1 109 mX1_printerFits := zall [954, 893, 894, 34, 895] (by decide +kernel) (by decide +kernel)
theorem dX1_candidateFits_6 : decode cX1_candidateFits 6 = .ok (.ifCond .eq 24, 3) := by decide +kernel
theorem dX1_candidateFits_30 : decode cX1_candidateFits 30 = .ok (.iconst 0, 1) := by decide +kernel
theorem dX1_candidateFits_31 : decode cX1_candidateFits 31 = .ok (.ireturn, 1) := by decide +kernel
theorem dX1_candidateFits_9 : decode cX1_candidateFits 9 = .ok (.iload_n 2, 1) := by decide +kernel
theorem dX1_candidateFits_10 : decode cX1_candidateFits 10 = .ok (.aload_n 0, 1) := by decide +kernel
theorem dX1_candidateFits_11 : decode cX1_candidateFits 11 = .ok (.iload_n 3, 1) := by decide +kernel
theorem dX1_candidateFits_12 : decode cX1_candidateFits 12 = .ok (.invokevirtual 112, 3) := by decide +kernel
theorem cw_RX1_112 : zCwV RX1 112 mX1_earliestYear := zall [955, 857, 858, 34, 859] (by decide +kernel) (by decide +kernel)
theorem dX1_candidateFits_15 : decode cX1_candidateFits 15 = .ok (.aload_n 0, 1) := by decide +kernel
theorem dX1_candidateFits_16 : decode cX1_candidateFits 16 = .ok (.iload_n 3, 1) := by decide +kernel
theorem dX1_candidateFits_17 : decode cX1_candidateFits 17 = .ok (.invokevirtual 115, 3) := by decide +kernel
theorem cw_RX1_115 : zCwV RX1 115 mX1_latestYear := zall [956, 877, 878, 34, 879] (by decide +kernel) (by decide +kernel)
theorem dX1_candidateFits_20 : decode cX1_candidateFits 20 = .ok (.invokestatic 39, 3) := by decide +kernel
theorem cw_RX1_39 : zCwN RX1 39 mX9_isWithin := ⟨⟨_, List.mem_of_getElem? (i := 13) rfl⟩, zall [420, 31, 421] (by decide +kernel) (by decide +kernel)⟩
theorem dX1_candidateFits_23 : decode cX1_candidateFits 23 = .ok (.ifCond .eq 7, 3) := by decide +kernel
theorem dX1_candidateFits_26 : decode cX1_candidateFits 26 = .ok (.iconst 1, 1) := by decide +kernel
theorem dX1_candidateFits_27 : decode cX1_candidateFits 27 = .ok (.goto 4, 3) := by decide +kernel
abbrev mX1_canBothHold : zM := (yX1_canBothHold, cX1_canBothHold, 6, (some .boolean), [])
theorem okX1_canBothHold : zMok mX1_canBothHold 2 := ⟨by decide, by decide, by decide +kernel⟩
theorem dX1_canBothHold_0 : decode cX1_canBothHold 0 = .ok (.aload_n 0, 1) := by decide +kernel
theorem dX1_canBothHold_1 : decode cX1_canBothHold 1 = .ok (.iload_n 1, 1) := by decide +kernel
theorem dX1_canBothHold_2 : decode cX1_canBothHold 2 = .ok (.invokevirtual 112, 3) := by decide +kernel
theorem dX1_canBothHold_5 : decode cX1_canBothHold 5 = .ok (.aload_n 0, 1) := by decide +kernel
theorem dX1_canBothHold_6 : decode cX1_canBothHold 6 = .ok (.iload_n 2, 1) := by decide +kernel
theorem dX1_canBothHold_7 : decode cX1_canBothHold 7 = .ok (.invokevirtual 112, 3) := by decide +kernel
theorem dX1_canBothHold_10 : decode cX1_canBothHold 10 = .ok (.invokestatic 118, 3) := by decide +kernel
theorem mw_RX1_118 : ∀ x ∈ ([.methodLink RX1 118 Lib.Math.max.name, .static Lib.Math.max.name, .initialized "java/lang/Math", .code Lib.Math.max.name Lib.Math.max.code 2 (some .int)] : List Cond), x ∈ zgood := zall [1109, 874, 19, 875] (by decide +kernel) (by decide +kernel)
theorem dX1_canBothHold_13 : decode cX1_canBothHold 13 = .ok (.istore_n 3, 1) := by decide +kernel
theorem dX1_canBothHold_14 : decode cX1_canBothHold 14 = .ok (.aload_n 0, 1) := by decide +kernel
theorem dX1_canBothHold_15 : decode cX1_canBothHold 15 = .ok (.iload_n 1, 1) := by decide +kernel
theorem dX1_canBothHold_16 : decode cX1_canBothHold 16 = .ok (.invokevirtual 115, 3) := by decide +kernel
theorem dX1_canBothHold_19 : decode cX1_canBothHold 19 = .ok (.aload_n 0, 1) := by decide +kernel
theorem dX1_canBothHold_20 : decode cX1_canBothHold 20 = .ok (.iload_n 2, 1) := by decide +kernel
theorem dX1_canBothHold_21 : decode cX1_canBothHold 21 = .ok (.invokevirtual 115, 3) := by decide +kernel
theorem dX1_canBothHold_24 : decode cX1_canBothHold 24 = .ok (.invokestatic 124, 3) := by decide +kernel
theorem mw_RX1_124 : ∀ x ∈ ([.methodLink RX1 124 Lib.Math.min.name, .static Lib.Math.min.name, .initialized "java/lang/Math", .code Lib.Math.min.name Lib.Math.min.code 2 (some .int)] : List Cond), x ∈ zgood := zall [1110, 782, 19, 783] (by decide +kernel) (by decide +kernel)
theorem dX1_canBothHold_27 : decode cX1_canBothHold 27 = .ok (.istore 4, 2) := by decide +kernel
theorem dX1_canBothHold_29 : decode cX1_canBothHold 29 = .ok (.iconst 0, 1) := by decide +kernel
theorem dX1_canBothHold_30 : decode cX1_canBothHold 30 = .ok (.istore 5, 2) := by decide +kernel
theorem dX1_canBothHold_32 : decode cX1_canBothHold 32 = .ok (.iload 5, 2) := by decide +kernel
theorem dX1_canBothHold_34 : decode cX1_canBothHold 34 = .ok (.aload_n 0, 1) := by decide +kernel
theorem dX1_canBothHold_35 : decode cX1_canBothHold 35 = .ok (.getfield 12, 3) := by decide +kernel
theorem dX1_canBothHold_38 : decode cX1_canBothHold 38 = .ok (.getfield 127, 3) := by decide +kernel
theorem fl_RX1_127 : zFl RX1 127 0 0 := ⟨RX0, TX0, 13, rfl, by decide, zmem1 107 (by decide +kernel) rfl, rfl⟩
theorem dX1_canBothHold_41 : decode cX1_canBothHold 41 = .ok (.if_icmp .ge 63, 3) := by decide +kernel
theorem dX1_canBothHold_104 : decode cX1_canBothHold 104 = .ok (.iconst 0, 1) := by decide +kernel
theorem dX1_canBothHold_105 : decode cX1_canBothHold 105 = .ok (.ireturn, 1) := by decide +kernel
theorem dX1_canBothHold_44 : decode cX1_canBothHold 44 = .ok (.aload_n 0, 1) := by decide +kernel
theorem dX1_canBothHold_45 : decode cX1_canBothHold 45 = .ok (.iload 5, 2) := by decide +kernel
theorem dX1_canBothHold_47 : decode cX1_canBothHold 47 = .ok (.iload_n 1, 1) := by decide +kernel
theorem dX1_canBothHold_48 : decode cX1_canBothHold 48 = .ok (.invokevirtual 109, 3) := by decide +kernel
theorem dX1_canBothHold_51 : decode cX1_canBothHold 51 = .ok (.ifCond .eq 47, 3) := by decide +kernel
theorem dX1_canBothHold_98 : decode cX1_canBothHold 98 = .ok (.iinc 5 1, 3) := by decide +kernel
theorem dX1_canBothHold_101 : decode cX1_canBothHold 101 = .ok (.goto (-69), 3) := by decide +kernel
theorem dX1_canBothHold_54 : decode cX1_canBothHold 54 = .ok (.aload_n 0, 1) := by decide +kernel
theorem dX1_canBothHold_55 : decode cX1_canBothHold 55 = .ok (.iload 5, 2) := by decide +kernel
theorem dX1_canBothHold_57 : decode cX1_canBothHold 57 = .ok (.iload_n 2, 1) := by decide +kernel
theorem dX1_canBothHold_58 : decode cX1_canBothHold 58 = .ok (.invokevirtual 109, 3) := by decide +kernel
theorem dX1_canBothHold_61 : decode cX1_canBothHold 61 = .ok (.ifCond .eq 37, 3) := by decide +kernel
theorem dX1_canBothHold_64 : decode cX1_canBothHold 64 = .ok (.iload_n 3, 1) := by decide +kernel
theorem dX1_canBothHold_65 : decode cX1_canBothHold 65 = .ok (.aload_n 0, 1) := by decide +kernel
theorem dX1_canBothHold_66 : decode cX1_canBothHold 66 = .ok (.getfield 12, 3) := by decide +kernel
theorem dX1_canBothHold_69 : decode cX1_canBothHold 69 = .ok (.getfield 130, 3) := by decide +kernel
theorem fl_RX1_130 : zFl RX1 130 0 3 := ⟨RX0, TX0, 13, rfl, by decide, zmem1 114 (by decide +kernel) rfl, rfl⟩
theorem dX1_canBothHold_72 : decode cX1_canBothHold 72 = .ok (.iload 5, 2) := by decide +kernel
theorem dX1_canBothHold_74 : decode cX1_canBothHold 74 = .ok (.iaload, 1) := by decide +kernel
theorem dX1_canBothHold_75 : decode cX1_canBothHold 75 = .ok (.invokestatic 118, 3) := by decide +kernel
theorem dX1_canBothHold_78 : decode cX1_canBothHold 78 = .ok (.iload 4, 2) := by decide +kernel
theorem dX1_canBothHold_80 : decode cX1_canBothHold 80 = .ok (.aload_n 0, 1) := by decide +kernel
theorem dX1_canBothHold_81 : decode cX1_canBothHold 81 = .ok (.getfield 12, 3) := by decide +kernel
theorem dX1_canBothHold_84 : decode cX1_canBothHold 84 = .ok (.getfield 133, 3) := by decide +kernel
theorem fl_RX1_133 : zFl RX1 133 0 4 := ⟨RX0, TX0, 13, rfl, by decide, zmem1 117 (by decide +kernel) rfl, rfl⟩
theorem dX1_canBothHold_87 : decode cX1_canBothHold 87 = .ok (.iload 5, 2) := by decide +kernel
theorem dX1_canBothHold_89 : decode cX1_canBothHold 89 = .ok (.iaload, 1) := by decide +kernel
theorem dX1_canBothHold_90 : decode cX1_canBothHold 90 = .ok (.invokestatic 124, 3) := by decide +kernel
theorem dX1_canBothHold_93 : decode cX1_canBothHold 93 = .ok (.if_icmp .gt 5, 3) := by decide +kernel
theorem dX1_canBothHold_96 : decode cX1_canBothHold 96 = .ok (.iconst 1, 1) := by decide +kernel
theorem dX1_canBothHold_97 : decode cX1_canBothHold 97 = .ok (.ireturn, 1) := by decide +kernel
abbrev mX0_giveDevice : zM := (yX0_giveDevice, cX0_giveDevice, 3, none, [])
theorem okX0_giveDevice : zMok mX0_giveDevice 2 := ⟨by decide, by decide, by decide +kernel⟩
theorem dX0_giveDevice_0 : decode cX0_giveDevice 0 = .ok (.aload_n 0, 1) := by decide +kernel
theorem dX0_giveDevice_1 : decode cX0_giveDevice 1 = .ok (.iload_n 1, 1) := by decide +kernel
theorem dX0_giveDevice_2 : decode cX0_giveDevice 2 = .ok (.invokevirtual 58, 3) := by decide +kernel
theorem dX0_giveDevice_5 : decode cX0_giveDevice 5 = .ok (.ifCond .eq 25, 3) := by decide +kernel
theorem dX0_giveDevice_30 : decode cX0_giveDevice 30 = .ok (.return_, 1) := by decide +kernel
theorem dX0_giveDevice_8 : decode cX0_giveDevice 8 = .ok (.iload_n 2, 1) := by decide +kernel
theorem dX0_giveDevice_9 : decode cX0_giveDevice 9 = .ok (.iconst 0, 1) := by decide +kernel
theorem dX0_giveDevice_10 : decode cX0_giveDevice 10 = .ok (.bipush 31, 2) := by decide +kernel
theorem dX0_giveDevice_12 : decode cX0_giveDevice 12 = .ok (.invokestatic 62, 3) := by decide +kernel
theorem dX0_giveDevice_15 : decode cX0_giveDevice 15 = .ok (.ifCond .eq 15, 3) := by decide +kernel
theorem dX0_giveDevice_18 : decode cX0_giveDevice 18 = .ok (.aload_n 0, 1) := by decide +kernel
theorem dX0_giveDevice_19 : decode cX0_giveDevice 19 = .ok (.getfield 28, 3) := by decide +kernel
theorem dX0_giveDevice_22 : decode cX0_giveDevice 22 = .ok (.iload_n 1, 1) := by decide +kernel
theorem dX0_giveDevice_23 : decode cX0_giveDevice 23 = .ok (.dup2, 1) := by decide +kernel
theorem dX0_giveDevice_24 : decode cX0_giveDevice 24 = .ok (.iaload, 1) := by decide +kernel
theorem dX0_giveDevice_25 : decode cX0_giveDevice 25 = .ok (.iconst 1, 1) := by decide +kernel
theorem dX0_giveDevice_26 : decode cX0_giveDevice 26 = .ok (.iload_n 2, 1) := by decide +kernel
theorem dX0_giveDevice_27 : decode cX0_giveDevice 27 = .ok (.ishl, 1) := by decide +kernel
theorem dX0_giveDevice_28 : decode cX0_giveDevice 28 = .ok (.ior, 1) := by decide +kernel
theorem dX0_giveDevice_29 : decode cX0_giveDevice 29 = .ok (.iastore, 1) := by decide +kernel
abbrev mX0_giveTypeface : zM := (yX0_giveTypeface, cX0_giveTypeface, 3, none, [])
theorem okX0_giveTypeface : zMok mX0_giveTypeface 2 := ⟨by decide, by decide, by decide +kernel⟩
theorem dX0_giveTypeface_0 : decode cX0_giveTypeface 0 = .ok (.aload_n 0, 1) := by decide +kernel
theorem dX0_giveTypeface_1 : decode cX0_giveTypeface 1 = .ok (.iload_n 1, 1) := by decide +kernel
theorem dX0_giveTypeface_2 : decode cX0_giveTypeface 2 = .ok (.invokevirtual 58, 3) := by decide +kernel
theorem dX0_giveTypeface_5 : decode cX0_giveTypeface 5 = .ok (.ifCond .eq 25, 3) := by decide +kernel
theorem dX0_giveTypeface_30 : decode cX0_giveTypeface 30 = .ok (.return_, 1) := by decide +kernel
theorem dX0_giveTypeface_8 : decode cX0_giveTypeface 8 = .ok (.iload_n 2, 1) := by decide +kernel
theorem dX0_giveTypeface_9 : decode cX0_giveTypeface 9 = .ok (.iconst 0, 1) := by decide +kernel
theorem dX0_giveTypeface_10 : decode cX0_giveTypeface 10 = .ok (.bipush 15, 2) := by decide +kernel
theorem dX0_giveTypeface_12 : decode cX0_giveTypeface 12 = .ok (.invokestatic 62, 3) := by decide +kernel
theorem dX0_giveTypeface_15 : decode cX0_giveTypeface 15 = .ok (.ifCond .eq 15, 3) := by decide +kernel
theorem dX0_giveTypeface_18 : decode cX0_giveTypeface 18 = .ok (.aload_n 0, 1) := by decide +kernel
theorem dX0_giveTypeface_19 : decode cX0_giveTypeface 19 = .ok (.getfield 31, 3) := by decide +kernel
theorem dX0_giveTypeface_22 : decode cX0_giveTypeface 22 = .ok (.iload_n 1, 1) := by decide +kernel
theorem dX0_giveTypeface_23 : decode cX0_giveTypeface 23 = .ok (.dup2, 1) := by decide +kernel
theorem dX0_giveTypeface_24 : decode cX0_giveTypeface 24 = .ok (.iaload, 1) := by decide +kernel
theorem dX0_giveTypeface_25 : decode cX0_giveTypeface 25 = .ok (.iconst 1, 1) := by decide +kernel
theorem dX0_giveTypeface_26 : decode cX0_giveTypeface 26 = .ok (.iload_n 2, 1) := by decide +kernel
theorem dX0_giveTypeface_27 : decode cX0_giveTypeface 27 = .ok (.ishl, 1) := by decide +kernel
theorem dX0_giveTypeface_28 : decode cX0_giveTypeface 28 = .ok (.ior, 1) := by decide +kernel
theorem dX0_giveTypeface_29 : decode cX0_giveTypeface 29 = .ok (.iastore, 1) := by decide +kernel
abbrev mX0_takeDevice : zM := (yX0_takeDevice, cX0_takeDevice, 3, none, [])
theorem okX0_takeDevice : zMok mX0_takeDevice 2 := ⟨by decide, by decide, by decide +kernel⟩
theorem dX0_takeDevice_0 : decode cX0_takeDevice 0 = .ok (.aload_n 0, 1) := by decide +kernel
theorem dX0_takeDevice_1 : decode cX0_takeDevice 1 = .ok (.iload_n 1, 1) := by decide +kernel
theorem dX0_takeDevice_2 : decode cX0_takeDevice 2 = .ok (.invokevirtual 58, 3) := by decide +kernel
theorem dX0_takeDevice_5 : decode cX0_takeDevice 5 = .ok (.ifCond .eq 27, 3) := by decide +kernel
theorem dX0_takeDevice_32 : decode cX0_takeDevice 32 = .ok (.return_, 1) := by decide +kernel
theorem dX0_takeDevice_8 : decode cX0_takeDevice 8 = .ok (.iload_n 2, 1) := by decide +kernel
theorem dX0_takeDevice_9 : decode cX0_takeDevice 9 = .ok (.iconst 0, 1) := by decide +kernel
theorem dX0_takeDevice_10 : decode cX0_takeDevice 10 = .ok (.bipush 31, 2) := by decide +kernel
theorem dX0_takeDevice_12 : decode cX0_takeDevice 12 = .ok (.invokestatic 62, 3) := by decide +kernel
theorem dX0_takeDevice_15 : decode cX0_takeDevice 15 = .ok (.ifCond .eq 17, 3) := by decide +kernel
theorem dX0_takeDevice_18 : decode cX0_takeDevice 18 = .ok (.aload_n 0, 1) := by decide +kernel
theorem dX0_takeDevice_19 : decode cX0_takeDevice 19 = .ok (.getfield 28, 3) := by decide +kernel
theorem dX0_takeDevice_22 : decode cX0_takeDevice 22 = .ok (.iload_n 1, 1) := by decide +kernel
theorem dX0_takeDevice_23 : decode cX0_takeDevice 23 = .ok (.dup2, 1) := by decide +kernel
theorem dX0_takeDevice_24 : decode cX0_takeDevice 24 = .ok (.iaload, 1) := by decide +kernel
theorem dX0_takeDevice_25 : decode cX0_takeDevice 25 = .ok (.iconst 1, 1) := by decide +kernel
theorem dX0_takeDevice_26 : decode cX0_takeDevice 26 = .ok (.iload_n 2, 1) := by decide +kernel
theorem dX0_takeDevice_27 : decode cX0_takeDevice 27 = .ok (.ishl, 1) := by decide +kernel
theorem dX0_takeDevice_28 : decode cX0_takeDevice 28 = .ok (.iconst (-1), 1) := by decide +kernel
theorem dX0_takeDevice_29 : decode cX0_takeDevice 29 = .ok (.ixor, 1) := by decide +kernel
theorem dX0_takeDevice_30 : decode cX0_takeDevice 30 = .ok (.iand, 1) := by decide +kernel
theorem dX0_takeDevice_31 : decode cX0_takeDevice 31 = .ok (.iastore, 1) := by decide +kernel

set_option maxRecDepth 20000 in
set_option maxHeartbeats 2000000 in
theorem sX1_dependsOnYear {l : Launch} {w : zW} (hfl : l.stackTraces = false) {σ : zS} {k c : Nat} (hz : zOK σ) (hW : WF (bk σ k)) (hc : (c : Int) < σ.1 (k + 12) 0) : Sp l w mX1_dependsOnYear 1 0 [zf 1 k, zi ((c : Nat) : Int)] σ (zret (zi (zb (σ.1 (k + 14) c = 2 ∨ σ.1 (k + 14) c = 4))) σ) := by
  obtain ⟨Q, hQ⟩ : ∃ Q : zQ, Q = (zret (zi (zb (σ.1 (k + 14) c = 2 ∨ σ.1 (k + 14) c = 4))) σ) := ⟨_, rfl⟩
  rw [← hQ]
  refine zx_enter hfl (by decide) rfl 0 rfl ?_
  show zX l w mX1_dependsOnYear (zMQ w 1 0 Q) 0 [zf 1 k, zi ((c : Nat) : Int)] [] 0 σ
  have hP : 0 ≤ σ.1 (k + 1) 0 ∧ σ.1 (k + 1) 0 ≤ 8 := hW.1.1
  have hM : 0 ≤ σ.1 (k + 1) 7 ∧ σ.1 (k + 1) 7 ≤ 8 := hW.1.2.1
  have hK : 0 ≤ σ.1 (k + 12) 0 ∧ σ.1 (k + 12) 0 ≤ 40 := hW.1.2.2.2
  refine zx_aloadN dX1_dependsOnYear_0 rfl rfl ?_
  refine zy_getR (q' := k + 12) fl_RX1_21 rfl dX1_dependsOnYear_1 rfl ?_
  refine zx_iloadN dX1_dependsOnYear_4 rfl rfl ?_
  refine zy_cv [zi ((c : Nat) : Int)] (sX2_has  hfl hz (by first | exact hz _ _ | assumption | exact zr_b _ | exact zcmp_r _ _ | (unfold zr at *; omega))) dX1_dependsOnYear_5 (by decide) rfl cw_RX1_62 okX2_has rfl (Nat.le_of_ble_eq_true rfl) ⟨Nat.le_of_ble_eq_true rfl, Nat.le_of_ble_eq_true rfl, Nat.le_of_ble_eq_true rfl, Nat.le_of_ble_eq_true rfl⟩ ?_
  refine zx_if_eq (tgt := 41) (by first | exact hz _ _ | assumption | exact zr_b _ | exact zcmp_r _ _ | (unfold zr at *; omega)) dX1_dependsOnYear_8 (by decide) (fun h8 => ?_) (fun h8 => ?_)
  · have h8 := zb_0.mp h8
    refine zx_iconst dX1_dependsOnYear_41 ?_
    refine zx_iret rfl rfl dX1_dependsOnYear_42 ?_
    rw [hQ]
    refine ⟨congrArg (fun z : Int => (Sum.inl (some (zi z)) : Option zV ⊕ String)) ?_, by first | rfl | (exfalso; omega)⟩
    first | rfl | exact (zb_t (by first | assumption | omega)).symm | exact (zb_f (by first | assumption | omega)).symm | exact zb_c (by constructor <;> intro q <;> omega)
  · have h8 := zb_n.mp h8
    refine zx_aloadN dX1_dependsOnYear_11 rfl rfl ?_
    refine zy_getR (q' := k + 12) fl_RX1_21 rfl dX1_dependsOnYear_12 rfl ?_
    refine zy_getR (q' := k + 14) fl_RX1_88 rfl dX1_dependsOnYear_15 rfl ?_
    refine zx_iloadN dX1_dependsOnYear_18 rfl rfl ?_
    refine zy_iald (v := σ.1 (k + 14) c) rfl (by decide) (by decide) dX1_dependsOnYear_19 (by omega) (by omega) rfl ?_
    refine zx_iconst dX1_dependsOnYear_20 ?_
    refine zx_icmp_eq (tgt := 37) (by first | exact hz _ _ | assumption | exact zr_b _ | exact zcmp_r _ _ | (unfold zr at *; omega)) (by first | exact hz _ _ | assumption | exact zr_b _ | exact zcmp_r _ _ | (unfold zr at *; omega)) dX1_dependsOnYear_21 (by decide) (fun h21 => ?_) (fun h21 => ?_)
    · refine zx_iconst dX1_dependsOnYear_37 ?_
      refine zx_goto (tgt := 42) dX1_dependsOnYear_38 (by decide) ?_
      refine zx_iret rfl rfl dX1_dependsOnYear_42 ?_
      rw [hQ]
      refine ⟨congrArg (fun z : Int => (Sum.inl (some (zi z)) : Option zV ⊕ String)) ?_, by first | rfl | (exfalso; omega)⟩
      first | rfl | exact (zb_t (by first | assumption | omega)).symm | exact (zb_f (by first | assumption | omega)).symm | exact zb_c (by constructor <;> intro q <;> omega)
    · refine zx_aloadN dX1_dependsOnYear_24 rfl rfl ?_
      refine zy_getR (q' := k + 12) fl_RX1_21 rfl dX1_dependsOnYear_25 rfl ?_
      refine zy_getR (q' := k + 14) fl_RX1_88 rfl dX1_dependsOnYear_28 rfl ?_
      refine zx_iloadN dX1_dependsOnYear_31 rfl rfl ?_
      refine zy_iald (v := σ.1 (k + 14) c) rfl (by decide) (by decide) dX1_dependsOnYear_32 (by omega) (by omega) rfl ?_
      refine zx_iconst dX1_dependsOnYear_33 ?_
      refine zx_icmp_ne (tgt := 41) (by first | exact hz _ _ | assumption | exact zr_b _ | exact zcmp_r _ _ | (unfold zr at *; omega)) (by first | exact hz _ _ | assumption | exact zr_b _ | exact zcmp_r _ _ | (unfold zr at *; omega)) dX1_dependsOnYear_34 (by decide) (fun h34 => ?_) (fun h34 => ?_)
      · refine zx_iconst dX1_dependsOnYear_41 ?_
        refine zx_iret rfl rfl dX1_dependsOnYear_42 ?_
        rw [hQ]
        refine ⟨congrArg (fun z : Int => (Sum.inl (some (zi z)) : Option zV ⊕ String)) ?_, by first | rfl | (exfalso; omega)⟩
        first | rfl | exact (zb_t (by first | assumption | omega)).symm | exact (zb_f (by first | assumption | omega)).symm | exact zb_c (by constructor <;> intro q <;> omega)
      · refine zx_iconst dX1_dependsOnYear_37 ?_
        refine zx_goto (tgt := 42) dX1_dependsOnYear_38 (by decide) ?_
        refine zx_iret rfl rfl dX1_dependsOnYear_42 ?_
        rw [hQ]
        refine ⟨congrArg (fun z : Int => (Sum.inl (some (zi z)) : Option zV ⊕ String)) ?_, by first | rfl | (exfalso; omega)⟩
        first | rfl | exact (zb_t (by first | assumption | omega)).symm | exact (zb_f (by first | assumption | omega)).symm | exact zb_c (by constructor <;> intro q <;> omega)
set_option maxRecDepth 20000 in
set_option maxHeartbeats 2000000 in
theorem sX1_printerFits {l : Launch} {w : zW} (hfl : l.stackTraces = false) {σ : zS} {k p c : Nat} (hz : zOK σ) (hW : WF (bk σ k)) (hp : (p : Int) < σ.1 (k + 1) 0) (hc : (c : Int) < σ.1 (k + 12) 0) : Sp l w mX1_printerFits 2 0 [zf 1 k, zi ((p : Nat) : Int), zi ((c : Nat) : Int)] σ (zret (zi (zb (pFit (bk σ k) p c))) σ) := by
  obtain ⟨Q, hQ⟩ : ∃ Q : zQ, Q = (zret (zi (zb (pFit (bk σ k) p c))) σ) := ⟨_, rfl⟩
  rw [← hQ]
  refine zx_enter hfl (by decide) rfl 1 rfl ?_
  show zX l w mX1_printerFits (zMQ w 2 0 Q) 0 [zf 1 k, zi ((p : Nat) : Int), zi ((c : Nat) : Int), zu] [] 0 σ
  have hP : 0 ≤ σ.1 (k + 1) 0 ∧ σ.1 (k + 1) 0 ≤ 8 := hW.1.1
  have hM : 0 ≤ σ.1 (k + 1) 7 ∧ σ.1 (k + 1) 7 ≤ 8 := hW.1.2.1
  have hK : 0 ≤ σ.1 (k + 12) 0 ∧ σ.1 (k + 12) 0 ≤ 40 := hW.1.2.2.2
  refine zx_aloadN dX1_printerFits_0 rfl rfl ?_
  refine zy_getR (q' := k + 1) fl_RX1_12 rfl dX1_printerFits_1 rfl ?_
  refine zx_iloadN dX1_printerFits_4 rfl rfl ?_
  refine zy_cv [zi ((p : Nat) : Int)] (sX0_hasPrinter  hfl hz (by first | exact hz _ _ | assumption | exact zr_b _ | exact zcmp_r _ _ | (unfold zr at *; omega))) dX1_printerFits_5 (by decide) rfl cw_RX1_74 okX0_hasPrinter rfl (Nat.le_of_ble_eq_true rfl) ⟨Nat.le_of_ble_eq_true rfl, Nat.le_of_ble_eq_true rfl, Nat.le_of_ble_eq_true rfl, Nat.le_of_ble_eq_true rfl⟩ ?_
  refine zx_if_eq (tgt := 22) (by first | exact hz _ _ | assumption | exact zr_b _ | exact zcmp_r _ _ | (unfold zr at *; omega)) dX1_printerFits_8 (by decide) (fun h8 => ?_) (fun h8 => ?_)
  · have h8 := zb_0.mp h8
    refine zx_iconst dX1_printerFits_22 ?_
    refine zx_iret rfl rfl dX1_printerFits_23 ?_
    rw [hQ]
    refine ⟨congrArg (fun z : Int => (Sum.inl (some (zi z)) : Option zV ⊕ String)) ?_, by first | rfl | (exfalso; omega)⟩
    simp only [pFit, hasDev, hasTyp, bk]
    first | rfl | exact (zb_t (by first | assumption | omega)).symm | exact (zb_f (by first | assumption | omega)).symm | exact zb_c (by constructor <;> intro q <;> omega)
  · have h8 := zb_n.mp h8
    refine zx_aloadN dX1_printerFits_11 rfl rfl ?_
    refine zy_getR (q' := k + 12) fl_RX1_21 rfl dX1_printerFits_12 rfl ?_
    refine zx_iloadN dX1_printerFits_15 rfl rfl ?_
    refine zy_cv [zi ((c : Nat) : Int)] (sX2_has  hfl hz (by first | exact hz _ _ | assumption | exact zr_b _ | exact zcmp_r _ _ | (unfold zr at *; omega))) dX1_printerFits_16 (by decide) rfl cw_RX1_62 okX2_has rfl (Nat.le_of_ble_eq_true rfl) ⟨Nat.le_of_ble_eq_true rfl, Nat.le_of_ble_eq_true rfl, Nat.le_of_ble_eq_true rfl, Nat.le_of_ble_eq_true rfl⟩ ?_
    refine zx_if_ne (tgt := 24) (by first | exact hz _ _ | assumption | exact zr_b _ | exact zcmp_r _ _ | (unfold zr at *; omega)) dX1_printerFits_19 (by decide) (fun h19 => ?_) (fun h19 => ?_)
    · have h19 := zb_n.mp h19
      refine zx_aloadN dX1_printerFits_24 rfl rfl ?_
      refine zy_getR (q' := k + 12) fl_RX1_21 rfl dX1_printerFits_25 rfl ?_
      refine zy_getR (q' := k + 15) fl_RX1_91 rfl dX1_printerFits_28 rfl ?_
      refine zx_iloadN dX1_printerFits_31 rfl rfl ?_
      refine zy_iald (v := σ.1 (k + 15) c) rfl (by decide) (by decide) dX1_printerFits_32 (by omega) (by omega) rfl ?_
      refine zy_istoreN [zf 1 k, zi ((p : Nat) : Int), zi ((c : Nat) : Int), zi (σ.1 (k + 15) c)] dX1_printerFits_33 rfl (Nat.le_of_ble_eq_true rfl) (Nat.le_of_ble_eq_true rfl) rfl rfl ?_
      refine zx_aloadN dX1_printerFits_34 rfl rfl ?_
      refine zy_getR (q' := k + 12) fl_RX1_21 rfl dX1_printerFits_35 rfl ?_
      refine zy_getR (q' := k + 14) fl_RX1_88 rfl dX1_printerFits_38 rfl ?_
      refine zx_iloadN dX1_printerFits_41 rfl rfl ?_
      refine zy_iald (v := σ.1 (k + 14) c) rfl (by decide) (by decide) dX1_printerFits_42 (by omega) (by omega) rfl ?_
      rcases (by omega : (σ.1 (k + 14) c) = 0 ∨ (σ.1 (k + 14) c) = 1 ∨ (σ.1 (k + 14) c) = 2 ∨ (σ.1 (k + 14) c) = 3 ∨ (σ.1 (k + 14) c < 0 ∨ 3 < σ.1 (k + 14) c)) with h43 | h43 | h43 | h43 | h43
      · refine zx_tableIn (off := 29) (tgt := 72) (by first | exact hz _ _ | assumption | exact zr_b _ | exact zcmp_r _ _ | (unfold zr at *; omega)) dX1_printerFits_43 (by omega) (by omega) (by rw [h43]; rfl) (by decide) ?_
        refine zx_aloadN dX1_printerFits_72 rfl rfl ?_
        refine zy_getR (q' := k + 1) fl_RX1_12 rfl dX1_printerFits_73 rfl ?_
        refine zx_iloadN dX1_printerFits_76 rfl rfl ?_
        refine zx_iloadN dX1_printerFits_77 rfl rfl ?_
        refine zy_cv [zi ((p : Nat) : Int), zi (σ.1 (k + 15) c)] (sX0_ownsDevice  hfl hz (by first | exact hz _ _ | assumption | exact zr_b _ | exact zcmp_r _ _ | (unfold zr at *; omega)) (by first | exact hz _ _ | assumption | exact zr_b _ | exact zcmp_r _ _ | (unfold zr at *; omega)) (by first | assumption | omega)) dX1_printerFits_78 (by decide) rfl cw_RX1_77 okX0_ownsDevice rfl (Nat.le_of_ble_eq_true rfl) ⟨Nat.le_of_ble_eq_true rfl, Nat.le_of_ble_eq_true rfl, Nat.le_of_ble_eq_true rfl, Nat.le_of_ble_eq_true rfl⟩ ?_
        refine zy_top (b := zb (0 ≤ ((p : Nat) : Int) ∧ ((p : Nat) : Int) < σ.1 (k + 1) 0 ∧ 0 ≤ (σ.1 (k + 15) c) ∧ (σ.1 (k + 15) c) ≤ 31 ∧ ¬ zand (zushr (σ.1 (k + 6) p) (σ.1 (k + 15) c)) 1 = 0)) rfl ?_
        refine zx_iret rfl (zb_nar _) dX1_printerFits_81 ?_
        rw [hQ]
        refine ⟨congrArg (fun z : Int => (Sum.inl (some (zi z)) : Option zV ⊕ String)) ?_, by first | rfl | (exfalso; omega)⟩
        simp only [pFit, hasDev, hasTyp, bk]
        first | rfl | exact (zb_t (by first | assumption | omega)).symm | exact (zb_f (by first | assumption | omega)).symm | exact zb_c (by constructor <;> intro q <;> omega)
      · refine zx_tableIn (off := 39) (tgt := 82) (by first | exact hz _ _ | assumption | exact zr_b _ | exact zcmp_r _ _ | (unfold zr at *; omega)) dX1_printerFits_43 (by omega) (by omega) (by rw [h43]; rfl) (by decide) ?_
        refine zx_aloadN dX1_printerFits_82 rfl rfl ?_
        refine zy_getR (q' := k + 1) fl_RX1_12 rfl dX1_printerFits_83 rfl ?_
        refine zx_iloadN dX1_printerFits_86 rfl rfl ?_
        refine zx_iloadN dX1_printerFits_87 rfl rfl ?_
        refine zy_cv [zi ((p : Nat) : Int), zi (σ.1 (k + 15) c)] (sX0_ownsTypeface  hfl hz (by first | exact hz _ _ | assumption | exact zr_b _ | exact zcmp_r _ _ | (unfold zr at *; omega)) (by first | exact hz _ _ | assumption | exact zr_b _ | exact zcmp_r _ _ | (unfold zr at *; omega)) (by first | assumption | omega)) dX1_printerFits_88 (by decide) rfl cw_RX1_94 okX0_ownsTypeface rfl (Nat.le_of_ble_eq_true rfl) ⟨Nat.le_of_ble_eq_true rfl, Nat.le_of_ble_eq_true rfl, Nat.le_of_ble_eq_true rfl, Nat.le_of_ble_eq_true rfl⟩ ?_
        refine zy_top (b := zb (0 ≤ ((p : Nat) : Int) ∧ ((p : Nat) : Int) < σ.1 (k + 1) 0 ∧ 0 ≤ (σ.1 (k + 15) c) ∧ (σ.1 (k + 15) c) ≤ 15 ∧ ¬ zand (zushr (σ.1 (k + 7) p) (σ.1 (k + 15) c)) 1 = 0)) rfl ?_
        refine zx_iret rfl (zb_nar _) dX1_printerFits_91 ?_
        rw [hQ]
        refine ⟨congrArg (fun z : Int => (Sum.inl (some (zi z)) : Option zV ⊕ String)) ?_, by first | rfl | (exfalso; omega)⟩
        simp only [pFit, hasDev, hasTyp, bk]
        first | rfl | exact (zb_t (by first | assumption | omega)).symm | exact (zb_f (by first | assumption | omega)).symm | exact zb_c (by constructor <;> intro q <;> omega)
      · refine zx_tableIn (off := 68) (tgt := 111) (by first | exact hz _ _ | assumption | exact zr_b _ | exact zcmp_r _ _ | (unfold zr at *; omega)) dX1_printerFits_43 (by omega) (by omega) (by rw [h43]; rfl) (by decide) ?_
        refine zx_iconst dX1_printerFits_111 ?_
        refine zx_iret rfl rfl dX1_printerFits_112 ?_
        rw [hQ]
        refine ⟨congrArg (fun z : Int => (Sum.inl (some (zi z)) : Option zV ⊕ String)) ?_, by first | rfl | (exfalso; omega)⟩
        simp only [pFit, hasDev, hasTyp, bk]
        first | rfl | exact (zb_t (by first | assumption | omega)).symm | exact (zb_f (by first | assumption | omega)).symm | exact zb_c (by constructor <;> intro q <;> omega)
      · refine zx_tableIn (off := 49) (tgt := 92) (by first | exact hz _ _ | assumption | exact zr_b _ | exact zcmp_r _ _ | (unfold zr at *; omega)) dX1_printerFits_43 (by omega) (by omega) (by rw [h43]; rfl) (by decide) ?_
        refine zx_aloadN dX1_printerFits_92 rfl rfl ?_
        refine zy_getR (q' := k + 1) fl_RX1_12 rfl dX1_printerFits_93 rfl ?_
        refine zy_getR (q' := k + 3) fl_RX1_97 rfl dX1_printerFits_96 rfl ?_
        refine zx_iloadN dX1_printerFits_99 rfl rfl ?_
        refine zy_iald (v := σ.1 (k + 3) p) rfl (by decide) (by decide) dX1_printerFits_100 (by omega) (by omega) rfl ?_
        refine zx_iloadN dX1_printerFits_101 rfl rfl ?_
        refine zx_icmp_ne (tgt := 109) (by first | exact hz _ _ | assumption | exact zr_b _ | exact zcmp_r _ _ | (unfold zr at *; omega)) (by first | exact hz _ _ | assumption | exact zr_b _ | exact zcmp_r _ _ | (unfold zr at *; omega)) dX1_printerFits_102 (by decide) (fun h102 => ?_) (fun h102 => ?_)
        · refine zx_iconst dX1_printerFits_109 ?_
          refine zx_iret rfl rfl dX1_printerFits_110 ?_
          rw [hQ]
          refine ⟨congrArg (fun z : Int => (Sum.inl (some (zi z)) : Option zV ⊕ String)) ?_, by first | rfl | (exfalso; omega)⟩
          simp only [pFit, hasDev, hasTyp, bk]
          first | rfl | exact (zb_t (by first | assumption | omega)).symm | exact (zb_f (by first | assumption | omega)).symm | exact zb_c (by constructor <;> intro q <;> omega)
        · refine zx_iconst dX1_printerFits_105 ?_
          refine zx_goto (tgt := 110) dX1_printerFits_106 (by decide) ?_
          refine zx_iret rfl rfl dX1_printerFits_110 ?_
          rw [hQ]
          refine ⟨congrArg (fun z : Int => (Sum.inl (some (zi z)) : Option zV ⊕ String)) ?_, by first | rfl | (exfalso; omega)⟩
          simp only [pFit, hasDev, hasTyp, bk]
          first | rfl | exact (zb_t (by first | assumption | omega)).symm | exact (zb_f (by first | assumption | omega)).symm | exact zb_c (by constructor <;> intro q <;> omega)
      · refine zx_tableOut (tgt := 111) (by first | exact hz _ _ | assumption | exact zr_b _ | exact zcmp_r _ _ | (unfold zr at *; omega)) dX1_printerFits_43 (by omega) (by decide) ?_
        refine zx_iconst dX1_printerFits_111 ?_
        refine zx_iret rfl rfl dX1_printerFits_112 ?_
        rw [hQ]
        refine ⟨congrArg (fun z : Int => (Sum.inl (some (zi z)) : Option zV ⊕ String)) ?_, by first | rfl | (exfalso; omega)⟩
        simp only [pFit, hasDev, hasTyp, bk]
        first | rfl | exact (zb_t (by first | assumption | omega)).symm | exact (zb_f (by first | assumption | omega)).symm | exact zb_c (by constructor <;> intro q <;> omega)
    · have h19 := zb_0.mp h19
      refine zx_iconst dX1_printerFits_22 ?_
      refine zx_iret rfl rfl dX1_printerFits_23 ?_
      rw [hQ]
      refine ⟨congrArg (fun z : Int => (Sum.inl (some (zi z)) : Option zV ⊕ String)) ?_, by first | rfl | (exfalso; omega)⟩
      simp only [pFit, hasDev, hasTyp, bk]
      first | rfl | exact (zb_t (by first | assumption | omega)).symm | exact (zb_f (by first | assumption | omega)).symm | exact zb_c (by constructor <;> intro q <;> omega)
set_option maxRecDepth 20000 in
set_option maxHeartbeats 2000000 in
theorem sX1_earliestYear {l : Launch} {w : zW} (hfl : l.stackTraces = false) {σ : zS} {k c : Nat} (hz : zOK σ) (hW : WF (bk σ k)) (hc : (c : Int) < σ.1 (k + 12) 0) : Sp l w mX1_earliestYear 2 0 [zf 1 k, zi ((c : Nat) : Int)] σ (zret (zi (eYr (bk σ k) c)) σ) := by
  obtain ⟨Q, hQ⟩ : ∃ Q : zQ, Q = (zret (zi (eYr (bk σ k) c)) σ) := ⟨_, rfl⟩
  rw [← hQ]
  refine zx_enter hfl (by decide) rfl 1 rfl ?_
  show zX l w mX1_earliestYear (zMQ w 2 0 Q) 0 [zf 1 k, zi ((c : Nat) : Int), zu] [] 0 σ
  have hP : 0 ≤ σ.1 (k + 1) 0 ∧ σ.1 (k + 1) 0 ≤ 8 := hW.1.1
  have hM : 0 ≤ σ.1 (k + 1) 7 ∧ σ.1 (k + 1) 7 ≤ 8 := hW.1.2.1
  have hK : 0 ≤ σ.1 (k + 12) 0 ∧ σ.1 (k + 12) 0 ≤ 40 := hW.1.2.2.2
  have hV : σ.1 (k + 14) c = 2 → 0 ≤ σ.1 (k + 15) c ∧ σ.1 (k + 15) c < σ.1 (k + 1) 7 := fun q => ⟨(hW.2.2.2.2.1 c hc).2.1.2.2.1, (hW.2.2.2.2.1 c hc).2.1.2.2.2.2.2.2.1 q⟩
  refine zx_aloadN dX1_earliestYear_0 rfl rfl ?_
  refine zx_iloadN dX1_earliestYear_1 rfl rfl ?_
  refine zy_cv [zi ((c : Nat) : Int)] (sX1_dependsOnYear  hfl hz (by first | assumption | omega) (by first | assumption | omega)) dX1_earliestYear_2 (by decide) rfl cw_RX1_100 okX1_dependsOnYear rfl (Nat.le_of_ble_eq_true rfl) ⟨Nat.le_of_ble_eq_true rfl, Nat.le_of_ble_eq_true rfl, Nat.le_of_ble_eq_true rfl, Nat.le_of_ble_eq_true rfl⟩ ?_
  refine zx_if_ne (tgt := 12) (by first | exact hz _ _ | assumption | exact zr_b _ | exact zcmp_r _ _ | (unfold zr at *; omega)) dX1_earliestYear_5 (by decide) (fun h5 => ?_) (fun h5 => ?_)
  · have h5 := zb_n.mp h5
    refine zx_aloadN dX1_earliestYear_12 rfl rfl ?_
    refine zy_getR (q' := k + 12) fl_RX1_21 rfl dX1_earliestYear_13 rfl ?_
    refine zy_getR (q' := k + 15) fl_RX1_91 rfl dX1_earliestYear_16 rfl ?_
    refine zx_iloadN dX1_earliestYear_19 rfl rfl ?_
    refine zy_iald (v := σ.1 (k + 15) c) rfl (by decide) (by decide) dX1_earliestYear_20 (by omega) (by omega) rfl ?_
    refine zy_istoreN [zf 1 k, zi ((c : Nat) : Int), zi (σ.1 (k + 15) c)] dX1_earliestYear_21 rfl (Nat.le_of_ble_eq_true rfl) (Nat.le_of_ble_eq_true rfl) rfl rfl ?_
    refine zx_aloadN dX1_earliestYear_22 rfl rfl ?_
    refine zy_getR (q' := k + 12) fl_RX1_21 rfl dX1_earliestYear_23 rfl ?_
    refine zy_getR (q' := k + 14) fl_RX1_88 rfl dX1_earliestYear_26 rfl ?_
    refine zx_iloadN dX1_earliestYear_29 rfl rfl ?_
    refine zy_iald (v := σ.1 (k + 14) c) rfl (by decide) (by decide) dX1_earliestYear_30 (by omega) (by omega) rfl ?_
    refine zx_iconst dX1_earliestYear_31 ?_
    refine zx_icmp_ne (tgt := 39) (by first | exact hz _ _ | assumption | exact zr_b _ | exact zcmp_r _ _ | (unfold zr at *; omega)) (by first | exact hz _ _ | assumption | exact zr_b _ | exact zcmp_r _ _ | (unfold zr at *; omega)) dX1_earliestYear_32 (by decide) (fun h32 => ?_) (fun h32 => ?_)
    · refine zx_aloadN dX1_earliestYear_39 rfl rfl ?_
      refine zy_getR (q' := k + 1) fl_RX1_12 rfl dX1_earliestYear_40 rfl ?_
      refine zx_iloadN dX1_earliestYear_43 rfl rfl ?_
      refine zy_cv [zi (σ.1 (k + 15) c)] (sX0_watermarkFrom  hfl hz (by first | exact hz _ _ | assumption | exact zr_b _ | exact zcmp_r _ _ | (unfold zr at *; omega)) (by first | assumption | omega)) dX1_earliestYear_44 (by decide) rfl cw_RX1_103 okX0_watermarkFrom rfl (Nat.le_of_ble_eq_true rfl) ⟨Nat.le_of_ble_eq_true rfl, Nat.le_of_ble_eq_true rfl, Nat.le_of_ble_eq_true rfl, Nat.le_of_ble_eq_true rfl⟩ ?_
      refine zy_top (b := if 0 ≤ (σ.1 (k + 15) c) ∧ (σ.1 (k + 15) c) < σ.1 (k + 1) 7 then σ.1 (k + 8) (σ.1 (k + 15) c).toNat else 1450) rfl ?_
      refine zx_iret rfl rfl dX1_earliestYear_47 ?_
      rw [hQ]
      refine ⟨congrArg (fun z : Int => (Sum.inl (some (zi z)) : Option zV ⊕ String)) ?_, by first | rfl | (exfalso; omega)⟩
      simp only [eYr, bk]
      first | rfl | omega | (split <;> first | rfl | omega)
    · refine zx_iloadN dX1_earliestYear_35 rfl rfl ?_
      refine zx_goto (tgt := 47) dX1_earliestYear_36 (by decide) ?_
      refine zx_iret rfl rfl dX1_earliestYear_47 ?_
      rw [hQ]
      refine ⟨congrArg (fun z : Int => (Sum.inl (some (zi z)) : Option zV ⊕ String)) ?_, by first | rfl | (exfalso; omega)⟩
      simp only [eYr, bk]
      first | rfl | omega | (split <;> first | rfl | omega)
  · have h5 := zb_0.mp h5
    refine zx_sipush dX1_earliestYear_8 rfl ?_
    refine zx_iret rfl rfl dX1_earliestYear_11 ?_
    rw [hQ]
    refine ⟨congrArg (fun z : Int => (Sum.inl (some (zi z)) : Option zV ⊕ String)) ?_, by first | rfl | (exfalso; omega)⟩
    simp only [eYr, bk]
    first | rfl | omega | (split <;> first | rfl | omega)
set_option maxRecDepth 20000 in
set_option maxHeartbeats 2000000 in
theorem sX1_latestYear {l : Launch} {w : zW} (hfl : l.stackTraces = false) {σ : zS} {k c : Nat} (hz : zOK σ) (hW : WF (bk σ k)) (hc : (c : Int) < σ.1 (k + 12) 0) : Sp l w mX1_latestYear 2 0 [zf 1 k, zi ((c : Nat) : Int)] σ (zret (zi (lYr (bk σ k) c)) σ) := by
  obtain ⟨Q, hQ⟩ : ∃ Q : zQ, Q = (zret (zi (lYr (bk σ k) c)) σ) := ⟨_, rfl⟩
  rw [← hQ]
  refine zx_enter hfl (by decide) rfl 1 rfl ?_
  show zX l w mX1_latestYear (zMQ w 2 0 Q) 0 [zf 1 k, zi ((c : Nat) : Int), zu] [] 0 σ
  have hP : 0 ≤ σ.1 (k + 1) 0 ∧ σ.1 (k + 1) 0 ≤ 8 := hW.1.1
  have hM : 0 ≤ σ.1 (k + 1) 7 ∧ σ.1 (k + 1) 7 ≤ 8 := hW.1.2.1
  have hK : 0 ≤ σ.1 (k + 12) 0 ∧ σ.1 (k + 12) 0 ≤ 40 := hW.1.2.2.2
  have hV : σ.1 (k + 14) c = 2 → 0 ≤ σ.1 (k + 15) c ∧ σ.1 (k + 15) c < σ.1 (k + 1) 7 := fun q => ⟨(hW.2.2.2.2.1 c hc).2.1.2.2.1, (hW.2.2.2.2.1 c hc).2.1.2.2.2.2.2.2.1 q⟩
  refine zx_aloadN dX1_latestYear_0 rfl rfl ?_
  refine zx_iloadN dX1_latestYear_1 rfl rfl ?_
  refine zy_cv [zi ((c : Nat) : Int)] (sX1_dependsOnYear  hfl hz (by first | assumption | omega) (by first | assumption | omega)) dX1_latestYear_2 (by decide) rfl cw_RX1_100 okX1_dependsOnYear rfl (Nat.le_of_ble_eq_true rfl) ⟨Nat.le_of_ble_eq_true rfl, Nat.le_of_ble_eq_true rfl, Nat.le_of_ble_eq_true rfl, Nat.le_of_ble_eq_true rfl⟩ ?_
  refine zx_if_ne (tgt := 12) (by first | exact hz _ _ | assumption | exact zr_b _ | exact zcmp_r _ _ | (unfold zr at *; omega)) dX1_latestYear_5 (by decide) (fun h5 => ?_) (fun h5 => ?_)
  · have h5 := zb_n.mp h5
    refine zx_aloadN dX1_latestYear_12 rfl rfl ?_
    refine zy_getR (q' := k + 12) fl_RX1_21 rfl dX1_latestYear_13 rfl ?_
    refine zy_getR (q' := k + 15) fl_RX1_91 rfl dX1_latestYear_16 rfl ?_
    refine zx_iloadN dX1_latestYear_19 rfl rfl ?_
    refine zy_iald (v := σ.1 (k + 15) c) rfl (by decide) (by decide) dX1_latestYear_20 (by omega) (by omega) rfl ?_
    refine zy_istoreN [zf 1 k, zi ((c : Nat) : Int), zi (σ.1 (k + 15) c)] dX1_latestYear_21 rfl (Nat.le_of_ble_eq_true rfl) (Nat.le_of_ble_eq_true rfl) rfl rfl ?_
    refine zx_aloadN dX1_latestYear_22 rfl rfl ?_
    refine zy_getR (q' := k + 12) fl_RX1_21 rfl dX1_latestYear_23 rfl ?_
    refine zy_getR (q' := k + 14) fl_RX1_88 rfl dX1_latestYear_26 rfl ?_
    refine zx_iloadN dX1_latestYear_29 rfl rfl ?_
    refine zy_iald (v := σ.1 (k + 14) c) rfl (by decide) (by decide) dX1_latestYear_30 (by omega) (by omega) rfl ?_
    refine zx_iconst dX1_latestYear_31 ?_
    refine zx_icmp_ne (tgt := 39) (by first | exact hz _ _ | assumption | exact zr_b _ | exact zcmp_r _ _ | (unfold zr at *; omega)) (by first | exact hz _ _ | assumption | exact zr_b _ | exact zcmp_r _ _ | (unfold zr at *; omega)) dX1_latestYear_32 (by decide) (fun h32 => ?_) (fun h32 => ?_)
    · refine zx_aloadN dX1_latestYear_39 rfl rfl ?_
      refine zy_getR (q' := k + 1) fl_RX1_12 rfl dX1_latestYear_40 rfl ?_
      refine zx_iloadN dX1_latestYear_43 rfl rfl ?_
      refine zy_cv [zi (σ.1 (k + 15) c)] (sX0_watermarkUntil  hfl hz (by first | exact hz _ _ | assumption | exact zr_b _ | exact zcmp_r _ _ | (unfold zr at *; omega)) (by first | assumption | omega)) dX1_latestYear_44 (by decide) rfl cw_RX1_106 okX0_watermarkUntil rfl (Nat.le_of_ble_eq_true rfl) ⟨Nat.le_of_ble_eq_true rfl, Nat.le_of_ble_eq_true rfl, Nat.le_of_ble_eq_true rfl, Nat.le_of_ble_eq_true rfl⟩ ?_
      refine zy_top (b := if 0 ≤ (σ.1 (k + 15) c) ∧ (σ.1 (k + 15) c) < σ.1 (k + 1) 7 then σ.1 (k + 9) (σ.1 (k + 15) c).toNat + 3 else 1999) rfl ?_
      refine zx_iret rfl rfl dX1_latestYear_47 ?_
      rw [hQ]
      refine ⟨congrArg (fun z : Int => (Sum.inl (some (zi z)) : Option zV ⊕ String)) ?_, by first | rfl | (exfalso; omega)⟩
      simp only [lYr, bk]
      first | rfl | omega | (split <;> first | rfl | omega)
    · refine zx_iloadN dX1_latestYear_35 rfl rfl ?_
      refine zx_goto (tgt := 47) dX1_latestYear_36 (by decide) ?_
      refine zx_iret rfl rfl dX1_latestYear_47 ?_
      rw [hQ]
      refine ⟨congrArg (fun z : Int => (Sum.inl (some (zi z)) : Option zV ⊕ String)) ?_, by first | rfl | (exfalso; omega)⟩
      simp only [lYr, bk]
      first | rfl | omega | (split <;> first | rfl | omega)
  · have h5 := zb_0.mp h5
    refine zx_sipush dX1_latestYear_8 rfl ?_
    refine zx_iret rfl rfl dX1_latestYear_11 ?_
    rw [hQ]
    refine ⟨congrArg (fun z : Int => (Sum.inl (some (zi z)) : Option zV ⊕ String)) ?_, by first | rfl | (exfalso; omega)⟩
    simp only [lYr, bk]
    first | rfl | omega | (split <;> first | rfl | omega)
set_option maxRecDepth 20000 in
set_option maxHeartbeats 2000000 in
theorem sX1_candidateFits {l : Launch} {w : zW} (hfl : l.stackTraces = false) {σ : zS} {k p c : Nat} {y : Int} (hz : zOK σ) (hW : WF (bk σ k)) (hy : zr y) (hp : (p : Int) < σ.1 (k + 1) 0) (hc : (c : Int) < σ.1 (k + 12) 0) : Sp l w mX1_candidateFits 3 0 [zf 1 k, zi ((p : Nat) : Int), zi y, zi ((c : Nat) : Int)] σ (zret (zi (zb (cFit (bk σ k) p y c))) σ) := by
  obtain ⟨Q, hQ⟩ : ∃ Q : zQ, Q = (zret (zi (zb (cFit (bk σ k) p y c))) σ) := ⟨_, rfl⟩
  rw [← hQ]
  refine zx_enter hfl (by decide) rfl 0 rfl ?_
  show zX l w mX1_candidateFits (zMQ w 3 0 Q) 0 [zf 1 k, zi ((p : Nat) : Int), zi y, zi ((c : Nat) : Int)] [] 0 σ
  have hP : 0 ≤ σ.1 (k + 1) 0 ∧ σ.1 (k + 1) 0 ≤ 8 := hW.1.1
  have hM : 0 ≤ σ.1 (k + 1) 7 ∧ σ.1 (k + 1) 7 ≤ 8 := hW.1.2.1
  have hK : 0 ≤ σ.1 (k + 12) 0 ∧ σ.1 (k + 12) 0 ≤ 40 := hW.1.2.2.2
  have hYc := WF_y hW hc
  refine zx_aloadN dX1_candidateFits_0 rfl rfl ?_
  refine zx_iloadN dX1_candidateFits_1 rfl rfl ?_
  refine zx_iloadN dX1_candidateFits_2 rfl rfl ?_
  refine zy_cv [zi ((p : Nat) : Int), zi ((c : Nat) : Int)] (sX1_printerFits  hfl hz (by first | assumption | omega) (by first | assumption | omega) (by first | assumption | omega)) dX1_candidateFits_3 (by decide) rfl cw_RX1_109 okX1_printerFits rfl (Nat.le_of_ble_eq_true rfl) ⟨Nat.le_of_ble_eq_true rfl, Nat.le_of_ble_eq_true rfl, Nat.le_of_ble_eq_true rfl, Nat.le_of_ble_eq_true rfl⟩ ?_
  refine zx_if_eq (tgt := 30) (by first | exact hz _ _ | assumption | exact zr_b _ | exact zcmp_r _ _ | (unfold zr at *; omega)) dX1_candidateFits_6 (by decide) (fun h6 => ?_) (fun h6 => ?_)
  · have h6 := zb_0.mp h6
    refine zx_iconst dX1_candidateFits_30 ?_
    refine zx_iret rfl rfl dX1_candidateFits_31 ?_
    rw [hQ]
    refine ⟨congrArg (fun z : Int => (Sum.inl (some (zi z)) : Option zV ⊕ String)) ?_, by first | rfl | (exfalso; omega)⟩
    first | exact (zb_t ⟨by assumption, by assumption⟩).symm | exact (zb_f (fun q => absurd q.1 (by assumption))).symm | exact (zb_f (fun q => absurd q.2 (by assumption))).symm
  · have h6 := zb_n.mp h6
    refine zx_iloadN dX1_candidateFits_9 rfl rfl ?_
    refine zx_aloadN dX1_candidateFits_10 rfl rfl ?_
    refine zx_iloadN dX1_candidateFits_11 rfl rfl ?_
    refine zy_cv [zi ((c : Nat) : Int)] (sX1_earliestYear  hfl hz (by first | assumption | omega) (by first | assumption | omega)) dX1_candidateFits_12 (by decide) rfl cw_RX1_112 okX1_earliestYear rfl (Nat.le_of_ble_eq_true rfl) ⟨Nat.le_of_ble_eq_true rfl, Nat.le_of_ble_eq_true rfl, Nat.le_of_ble_eq_true rfl, Nat.le_of_ble_eq_true rfl⟩ ?_
    refine zx_aloadN dX1_candidateFits_15 rfl rfl ?_
    refine zx_iloadN dX1_candidateFits_16 rfl rfl ?_
    refine zy_cv [zi ((c : Nat) : Int)] (sX1_latestYear  hfl hz (by first | assumption | omega) (by first | assumption | omega)) dX1_candidateFits_17 (by decide) rfl cw_RX1_115 okX1_latestYear rfl (Nat.le_of_ble_eq_true rfl) ⟨Nat.le_of_ble_eq_true rfl, Nat.le_of_ble_eq_true rfl, Nat.le_of_ble_eq_true rfl, Nat.le_of_ble_eq_true rfl⟩ ?_
    refine zy_cn [zi y, zi (eYr (bk σ k) c), zi (lYr (bk σ k) c)] (sX9_isWithin  hfl hz (by first | exact hz _ _ | assumption | exact zr_b _ | exact zcmp_r _ _ | (unfold zr at *; omega)) (by first | exact hz _ _ | assumption | exact zr_b _ | exact zcmp_r _ _ | (unfold zr at *; omega)) (by first | exact hz _ _ | assumption | exact zr_b _ | exact zcmp_r _ _ | (unfold zr at *; omega))) dX1_candidateFits_20 cw_RX1_39 okX9_isWithin rfl (Nat.le_of_ble_eq_true rfl) ⟨Nat.le_of_ble_eq_true rfl, Nat.le_of_ble_eq_true rfl, Nat.le_of_ble_eq_true rfl, Nat.le_of_ble_eq_true rfl⟩ ?_
    refine zx_if_eq (tgt := 30) (by first | exact hz _ _ | assumption | exact zr_b _ | exact zcmp_r _ _ | (unfold zr at *; omega)) dX1_candidateFits_23 (by decide) (fun h23 => ?_) (fun h23 => ?_)
    · have h23 := zb_0.mp h23
      refine zx_iconst dX1_candidateFits_30 ?_
      refine zx_iret rfl rfl dX1_candidateFits_31 ?_
      rw [hQ]
      refine ⟨congrArg (fun z : Int => (Sum.inl (some (zi z)) : Option zV ⊕ String)) ?_, by first | rfl | (exfalso; omega)⟩
      first | exact (zb_t ⟨by assumption, by assumption⟩).symm | exact (zb_f (fun q => absurd q.1 (by assumption))).symm | exact (zb_f (fun q => absurd q.2 (by assumption))).symm
    · have h23 := zb_n.mp h23
      refine zx_iconst dX1_candidateFits_26 ?_
      refine zx_goto (tgt := 31) dX1_candidateFits_27 (by decide) ?_
      refine zx_iret rfl rfl dX1_candidateFits_31 ?_
      rw [hQ]
      refine ⟨congrArg (fun z : Int => (Sum.inl (some (zi z)) : Option zV ⊕ String)) ?_, by first | rfl | (exfalso; omega)⟩
      first | exact (zb_t ⟨by assumption, by assumption⟩).symm | exact (zb_f (fun q => absurd q.1 (by assumption))).symm | exact (zb_f (fun q => absurd q.2 (by assumption))).symm
set_option maxRecDepth 20000 in
set_option maxHeartbeats 2000000 in
theorem sX1_canBothHold {l : Launch} {w : zW} (hfl : l.stackTraces = false) {σ : zS} {k c d : Nat} (hz : zOK σ) (hW : WF (bk σ k)) (hc : (c : Int) < σ.1 (k + 12) 0) (hd : (d : Int) < σ.1 (k + 12) 0) : Sp l w mX1_canBothHold 3 0 [zf 1 k, zi ((c : Nat) : Int), zi ((d : Nat) : Int)] σ (zret (zi (zb (tog (bk σ k) c d))) σ) := by
  obtain ⟨Q, hQ⟩ : ∃ Q : zQ, Q = (zret (zi (zb (tog (bk σ k) c d))) σ) := ⟨_, rfl⟩
  rw [← hQ]
  refine zx_enter hfl (by decide) rfl 3 rfl ?_
  show zX l w mX1_canBothHold (zMQ w 3 0 Q) 0 [zf 1 k, zi ((c : Nat) : Int), zi ((d : Nat) : Int), zu, zu, zu] [] 0 σ
  have hP : 0 ≤ σ.1 (k + 1) 0 ∧ σ.1 (k + 1) 0 ≤ 8 := hW.1.1
  have hM : 0 ≤ σ.1 (k + 1) 7 ∧ σ.1 (k + 1) 7 ≤ 8 := hW.1.2.1
  have hK : 0 ≤ σ.1 (k + 12) 0 ∧ σ.1 (k + 12) 0 ≤ 40 := hW.1.2.2.2
  have hYc := WF_y hW hc
  have hYd := WF_y hW hd
  refine zx_aloadN dX1_canBothHold_0 rfl rfl ?_
  refine zx_iloadN dX1_canBothHold_1 rfl rfl ?_
  refine zy_cv [zi ((c : Nat) : Int)] (sX1_earliestYear  hfl hz (by first | assumption | omega) (by first | assumption | omega)) dX1_canBothHold_2 (by decide) rfl cw_RX1_112 okX1_earliestYear rfl (Nat.le_of_ble_eq_true rfl) ⟨Nat.le_of_ble_eq_true rfl, Nat.le_of_ble_eq_true rfl, Nat.le_of_ble_eq_true rfl, Nat.le_of_ble_eq_true rfl⟩ ?_
  refine zx_aloadN dX1_canBothHold_5 rfl rfl ?_
  refine zx_iloadN dX1_canBothHold_6 rfl rfl ?_
  refine zy_cv [zi ((d : Nat) : Int)] (sX1_earliestYear  hfl hz (by first | assumption | omega) (by first | assumption | omega)) dX1_canBothHold_7 (by decide) rfl cw_RX1_112 okX1_earliestYear rfl (Nat.le_of_ble_eq_true rfl) ⟨Nat.le_of_ble_eq_true rfl, Nat.le_of_ble_eq_true rfl, Nat.le_of_ble_eq_true rfl, Nat.le_of_ble_eq_true rfl⟩ ?_
  refine zx_max (by first | exact hz _ _ | assumption | exact zr_b _ | exact zcmp_r _ _ | exact zr_max (by assumption) (hz _ _) | exact zr_min (by assumption) (hz _ _) | (unfold zr at *; omega)) (by first | exact hz _ _ | assumption | exact zr_b _ | exact zcmp_r _ _ | exact zr_max (by assumption) (hz _ _) | exact zr_min (by assumption) (hz _ _) | (unfold zr at *; omega)) mw_RX1_118 (Nat.le_of_ble_eq_true rfl) ⟨Nat.le_of_ble_eq_true rfl, Nat.le_of_ble_eq_true rfl⟩ dX1_canBothHold_10 ?_
  refine zy_istoreN [zf 1 k, zi ((c : Nat) : Int), zi ((d : Nat) : Int), zi (max (eYr (bk σ k) c) (eYr (bk σ k) d)), zu, zu] dX1_canBothHold_13 rfl (Nat.le_of_ble_eq_true rfl) (Nat.le_of_ble_eq_true rfl) rfl rfl ?_
  have zm1 : zr (max (eYr (bk σ k) c) (eYr (bk σ k) d)) := by unfold zr; omega
  refine zx_aloadN dX1_canBothHold_14 rfl rfl ?_
  refine zx_iloadN dX1_canBothHold_15 rfl rfl ?_
  refine zy_cv [zi ((c : Nat) : Int)] (sX1_latestYear  hfl hz (by first | assumption | omega) (by first | assumption | omega)) dX1_canBothHold_16 (by decide) rfl cw_RX1_115 okX1_latestYear rfl (Nat.le_of_ble_eq_true rfl) ⟨Nat.le_of_ble_eq_true rfl, Nat.le_of_ble_eq_true rfl, Nat.le_of_ble_eq_true rfl, Nat.le_of_ble_eq_true rfl⟩ ?_
  refine zx_aloadN dX1_canBothHold_19 rfl rfl ?_
  refine zx_iloadN dX1_canBothHold_20 rfl rfl ?_
  refine zy_cv [zi ((d : Nat) : Int)] (sX1_latestYear  hfl hz (by first | assumption | omega) (by first | assumption | omega)) dX1_canBothHold_21 (by decide) rfl cw_RX1_115 okX1_latestYear rfl (Nat.le_of_ble_eq_true rfl) ⟨Nat.le_of_ble_eq_true rfl, Nat.le_of_ble_eq_true rfl, Nat.le_of_ble_eq_true rfl, Nat.le_of_ble_eq_true rfl⟩ ?_
  refine zx_min (by first | exact hz _ _ | assumption | exact zr_b _ | exact zcmp_r _ _ | exact zr_max (by assumption) (hz _ _) | exact zr_min (by assumption) (hz _ _) | (unfold zr at *; omega)) (by first | exact hz _ _ | assumption | exact zr_b _ | exact zcmp_r _ _ | exact zr_max (by assumption) (hz _ _) | exact zr_min (by assumption) (hz _ _) | (unfold zr at *; omega)) mw_RX1_124 (Nat.le_of_ble_eq_true rfl) ⟨Nat.le_of_ble_eq_true rfl, Nat.le_of_ble_eq_true rfl⟩ dX1_canBothHold_24 ?_
  refine zy_istore [zf 1 k, zi ((c : Nat) : Int), zi ((d : Nat) : Int), zi (max (eYr (bk σ k) c) (eYr (bk σ k) d)), zi (min (lYr (bk σ k) c) (lYr (bk σ k) d)), zu] dX1_canBothHold_27 (Nat.le_of_ble_eq_true rfl) (Nat.le_of_ble_eq_true rfl) rfl rfl ?_
  have zm2 : zr (min (lYr (bk σ k) c) (lYr (bk σ k) d)) := by unfold zr; omega
  refine zx_iconst dX1_canBothHold_29 ?_
  refine zy_istore [zf 1 k, zi ((c : Nat) : Int), zi ((d : Nat) : Int), zi (max (eYr (bk σ k) c) (eYr (bk σ k) d)), zi (min (lYr (bk σ k) c) (lYr (bk σ k) d)), zi 0] dX1_canBothHold_30 (Nat.le_of_ble_eq_true rfl) (Nat.le_of_ble_eq_true rfl) rfl rfl ?_
  have L32 : ∀ (N : Nat) (p : Nat), ((p : Int) ≤ σ.1 (k + 1) 0) → (∀ q, q < p → ¬ both (bk σ k) c d q) → (9 - p) < N → zX l w mX1_canBothHold (zMQ w 3 0 Q) 32 [zf 1 k, zi ((c : Nat) : Int), zi ((d : Nat) : Int), zi (max (eYr (bk σ k) c) (eYr (bk σ k) d)), zi (min (lYr (bk σ k) c) (lYr (bk σ k) d)), zi ((p : Nat) : Int)] [] 0 σ := by
    intro N
    induction N with
    | zero => intro p _ _ _; exact absurd (by assumption) (Nat.not_lt_zero _)
    | succ N ih32 =>
      intro p hi hj hN
      refine zx_iload dX1_canBothHold_32 rfl ?_
      refine zx_aloadN dX1_canBothHold_34 rfl rfl ?_
      refine zy_getR (q' := k + 1) fl_RX1_12 rfl dX1_canBothHold_35 rfl ?_
      refine zy_getI fl_RX1_127 rfl dX1_canBothHold_38 rfl ?_
      refine zx_icmp_ge (tgt := 104) (by first | exact hz _ _ | assumption | exact zr_b _ | exact zcmp_r _ _ | exact zr_max (by assumption) (hz _ _) | exact zr_min (by assumption) (hz _ _) | (unfold zr at *; omega)) (by first | exact hz _ _ | assumption | exact zr_b _ | exact zcmp_r _ _ | exact zr_max (by assumption) (hz _ _) | exact zr_min (by assumption) (hz _ _) | (unfold zr at *; omega)) dX1_canBothHold_41 (by decide) (fun h41 => ?_) (fun h41 => ?_)
      · refine zx_iconst dX1_canBothHold_104 ?_
        refine zx_iret rfl rfl dX1_canBothHold_105 ?_
        rw [hQ]
        refine ⟨congrArg (fun z : Int => (Sum.inl (some (zi z)) : Option zV ⊕ String)) ?_, by first | rfl | (exfalso; omega)⟩
        first | exact (zb_t ⟨p, (by first | assumption | omega), by assumption, by assumption, by assumption⟩).symm | exact (zb_f (fun ⟨p2, q1, q2⟩ => hj p2 (by have q3 : (p2 : Int) < σ.1 (k + 1) 0 := q1; omega) q2)).symm
      · refine zx_aloadN dX1_canBothHold_44 rfl rfl ?_
        refine zx_iload dX1_canBothHold_45 rfl ?_
        refine zx_iloadN dX1_canBothHold_47 rfl rfl ?_
        refine zy_cv [zi ((p : Nat) : Int), zi ((c : Nat) : Int)] (sX1_printerFits  hfl hz (by first | assumption | omega) (by first | assumption | omega) (by first | assumption | omega)) dX1_canBothHold_48 (by decide) rfl cw_RX1_109 okX1_printerFits rfl (Nat.le_of_ble_eq_true rfl) ⟨Nat.le_of_ble_eq_true rfl, Nat.le_of_ble_eq_true rfl, Nat.le_of_ble_eq_true rfl, Nat.le_of_ble_eq_true rfl⟩ ?_
        refine zx_if_eq (tgt := 98) (by first | exact hz _ _ | assumption | exact zr_b _ | exact zcmp_r _ _ | exact zr_max (by assumption) (hz _ _) | exact zr_min (by assumption) (hz _ _) | (unfold zr at *; omega)) dX1_canBothHold_51 (by decide) (fun h51 => ?_) (fun h51 => ?_)
        · have h51 := zb_0.mp h51
          refine zy_iinc (b := ((p + 1 : Nat) : Int)) [zf 1 k, zi ((c : Nat) : Int), zi ((d : Nat) : Int), zi (max (eYr (bk σ k) c) (eYr (bk σ k) d)), zi (min (lYr (bk σ k) c) (lYr (bk σ k) d)), zi ((p + 1 : Nat) : Int)] dX1_canBothHold_98 rfl (by omega) (Nat.le_of_ble_eq_true rfl) rfl rfl ?_
          refine zx_goto (tgt := 32) dX1_canBothHold_101 (by decide) ?_
          exact ih32 (p + 1) (by first | assumption | omega) (lt_s hj (fun q => by first | exact absurd q.1 (by assumption) | exact absurd q.2.1 (by assumption) | exact absurd q.2.2 (Int.not_le.mpr (by assumption)))) (by omega)
        · have h51 := zb_n.mp h51
          refine zx_aloadN dX1_canBothHold_54 rfl rfl ?_
          refine zx_iload dX1_canBothHold_55 rfl ?_
          refine zx_iloadN dX1_canBothHold_57 rfl rfl ?_
          refine zy_cv [zi ((p : Nat) : Int), zi ((d : Nat) : Int)] (sX1_printerFits  hfl hz (by first | assumption | omega) (by first | assumption | omega) (by first | assumption | omega)) dX1_canBothHold_58 (by decide) rfl cw_RX1_109 okX1_printerFits rfl (Nat.le_of_ble_eq_true rfl) ⟨Nat.le_of_ble_eq_true rfl, Nat.le_of_ble_eq_true rfl, Nat.le_of_ble_eq_true rfl, Nat.le_of_ble_eq_true rfl⟩ ?_
          refine zx_if_eq (tgt := 98) (by first | exact hz _ _ | assumption | exact zr_b _ | exact zcmp_r _ _ | exact zr_max (by assumption) (hz _ _) | exact zr_min (by assumption) (hz _ _) | (unfold zr at *; omega)) dX1_canBothHold_61 (by decide) (fun h61 => ?_) (fun h61 => ?_)
          · have h61 := zb_0.mp h61
            refine zy_iinc (b := ((p + 1 : Nat) : Int)) [zf 1 k, zi ((c : Nat) : Int), zi ((d : Nat) : Int), zi (max (eYr (bk σ k) c) (eYr (bk σ k) d)), zi (min (lYr (bk σ k) c) (lYr (bk σ k) d)), zi ((p + 1 : Nat) : Int)] dX1_canBothHold_98 rfl (by omega) (Nat.le_of_ble_eq_true rfl) rfl rfl ?_
            refine zx_goto (tgt := 32) dX1_canBothHold_101 (by decide) ?_
            exact ih32 (p + 1) (by first | assumption | omega) (lt_s hj (fun q => by first | exact absurd q.1 (by assumption) | exact absurd q.2.1 (by assumption) | exact absurd q.2.2 (Int.not_le.mpr (by assumption)))) (by omega)
          · have h61 := zb_n.mp h61
            refine zx_iloadN dX1_canBothHold_64 rfl rfl ?_
            refine zx_aloadN dX1_canBothHold_65 rfl rfl ?_
            refine zy_getR (q' := k + 1) fl_RX1_12 rfl dX1_canBothHold_66 rfl ?_
            refine zy_getR (q' := k + 4) fl_RX1_130 rfl dX1_canBothHold_69 rfl ?_
            refine zx_iload dX1_canBothHold_72 rfl ?_
            refine zy_iald (v := σ.1 (k + 4) p) rfl (by decide) (by decide) dX1_canBothHold_74 (by omega) (by omega) rfl ?_
            refine zx_max (by first | exact hz _ _ | assumption | exact zr_b _ | exact zcmp_r _ _ | exact zr_max (by assumption) (hz _ _) | exact zr_min (by assumption) (hz _ _) | (unfold zr at *; omega)) (by first | exact hz _ _ | assumption | exact zr_b _ | exact zcmp_r _ _ | exact zr_max (by assumption) (hz _ _) | exact zr_min (by assumption) (hz _ _) | (unfold zr at *; omega)) mw_RX1_118 (Nat.le_of_ble_eq_true rfl) ⟨Nat.le_of_ble_eq_true rfl, Nat.le_of_ble_eq_true rfl⟩ dX1_canBothHold_75 ?_
            refine zx_iload dX1_canBothHold_78 rfl ?_
            refine zx_aloadN dX1_canBothHold_80 rfl rfl ?_
            refine zy_getR (q' := k + 1) fl_RX1_12 rfl dX1_canBothHold_81 rfl ?_
            refine zy_getR (q' := k + 5) fl_RX1_133 rfl dX1_canBothHold_84 rfl ?_
            refine zx_iload dX1_canBothHold_87 rfl ?_
            refine zy_iald (v := σ.1 (k + 5) p) rfl (by decide) (by decide) dX1_canBothHold_89 (by omega) (by omega) rfl ?_
            refine zx_min (by first | exact hz _ _ | assumption | exact zr_b _ | exact zcmp_r _ _ | exact zr_max (by assumption) (hz _ _) | exact zr_min (by assumption) (hz _ _) | (unfold zr at *; omega)) (by first | exact hz _ _ | assumption | exact zr_b _ | exact zcmp_r _ _ | exact zr_max (by assumption) (hz _ _) | exact zr_min (by assumption) (hz _ _) | (unfold zr at *; omega)) mw_RX1_124 (Nat.le_of_ble_eq_true rfl) ⟨Nat.le_of_ble_eq_true rfl, Nat.le_of_ble_eq_true rfl⟩ dX1_canBothHold_90 ?_
            refine zx_icmp_gt (tgt := 98) (by first | exact hz _ _ | assumption | exact zr_b _ | exact zcmp_r _ _ | exact zr_max (by assumption) (hz _ _) | exact zr_min (by assumption) (hz _ _) | (unfold zr at *; omega)) (by first | exact hz _ _ | assumption | exact zr_b _ | exact zcmp_r _ _ | exact zr_max (by assumption) (hz _ _) | exact zr_min (by assumption) (hz _ _) | (unfold zr at *; omega)) dX1_canBothHold_93 (by decide) (fun h93 => ?_) (fun h93 => ?_)
            · refine zy_iinc (b := ((p + 1 : Nat) : Int)) [zf 1 k, zi ((c : Nat) : Int), zi ((d : Nat) : Int), zi (max (eYr (bk σ k) c) (eYr (bk σ k) d)), zi (min (lYr (bk σ k) c) (lYr (bk σ k) d)), zi ((p + 1 : Nat) : Int)] dX1_canBothHold_98 rfl (by omega) (Nat.le_of_ble_eq_true rfl) rfl rfl ?_
              refine zx_goto (tgt := 32) dX1_canBothHold_101 (by decide) ?_
              exact ih32 (p + 1) (by first | assumption | omega) (lt_s hj (fun q => by first | exact absurd q.1 (by assumption) | exact absurd q.2.1 (by assumption) | exact absurd q.2.2 (Int.not_le.mpr (by assumption)))) (by omega)
            · refine zx_iconst dX1_canBothHold_96 ?_
              refine zx_iret rfl rfl dX1_canBothHold_97 ?_
              rw [hQ]
              refine ⟨congrArg (fun z : Int => (Sum.inl (some (zi z)) : Option zV ⊕ String)) ?_, by first | rfl | (exfalso; omega)⟩
              first | exact (zb_t ⟨p, (by first | assumption | omega), by assumption, by assumption, by assumption⟩).symm | exact (zb_f (fun ⟨p2, q1, q2⟩ => hj p2 (by have q3 : (p2 : Int) < σ.1 (k + 1) 0 := q1; omega) q2)).symm
  exact L32 _ 0 (by first | assumption | omega) lt_0 (Nat.lt_succ_self _)
set_option maxRecDepth 20000 in
set_option maxHeartbeats 2000000 in
theorem sX0_giveDevice {l : Launch} {w : zW} (hfl : l.stackTraces = false) {σ : zS} {a p : Nat} {d : Int} (hz : zOK σ) (hp : (p : Int) < σ.1 a 0) (hP : 0 ≤ σ.1 a 0 ∧ σ.1 a 0 ≤ 8) (hd : 0 ≤ d ∧ d ≤ 31) : Sp l w mX0_giveDevice 1 0 [zf 0 a, zi ((p : Nat) : Int), zi d] σ (zrtv (zput σ (a + 5) p (zor (σ.1 (a + 5) p) (zshl 1 d)))) := by
  obtain ⟨Q, hQ⟩ : ∃ Q : zQ, Q = (zrtv (zput σ (a + 5) p (zor (σ.1 (a + 5) p) (zshl 1 d)))) := ⟨_, rfl⟩
  rw [← hQ]
  refine zx_enter hfl (by decide) rfl 0 rfl ?_
  show zX l w mX0_giveDevice (zMQ w 1 0 Q) 0 [zf 0 a, zi ((p : Nat) : Int), zi d] [] 0 σ
  refine zx_aloadN dX0_giveDevice_0 rfl rfl ?_
  refine zx_iloadN dX0_giveDevice_1 rfl rfl ?_
  refine zy_cv [zi ((p : Nat) : Int)] (sX0_hasPrinter  hfl hz (by first | exact hz _ _ | assumption | exact zr_b _ | exact zcmp_r _ _ | exact zr_t _ | (unfold zr at *; omega))) dX0_giveDevice_2 (by decide) rfl cw_RX0_58 okX0_hasPrinter rfl (Nat.le_of_ble_eq_true rfl) ⟨Nat.le_of_ble_eq_true rfl, Nat.le_of_ble_eq_true rfl, Nat.le_of_ble_eq_true rfl, Nat.le_of_ble_eq_true rfl⟩ ?_
  refine zx_if_eq (tgt := 30) (by first | exact hz _ _ | assumption | exact zr_b _ | exact zcmp_r _ _ | exact zr_t _ | (unfold zr at *; omega)) dX0_giveDevice_5 (by decide) (fun h5 => ?_) (fun h5 => ?_)
  · have h5 := zb_0.mp h5
    refine zx_vret rfl dX0_giveDevice_30 ?_
    rw [hQ]
    exact ⟨rfl, by first | rfl | (exfalso; omega)⟩
  · have h5 := zb_n.mp h5
    refine zx_iloadN dX0_giveDevice_8 rfl rfl ?_
    refine zx_iconst dX0_giveDevice_9 ?_
    refine zx_bipush dX0_giveDevice_10 rfl ?_
    refine zy_cn [zi d, zi 0, zi 31] (sX9_isWithin  hfl hz (by first | exact hz _ _ | assumption | exact zr_b _ | exact zcmp_r _ _ | exact zr_t _ | (unfold zr at *; omega)) (by first | exact hz _ _ | assumption | exact zr_b _ | exact zcmp_r _ _ | exact zr_t _ | (unfold zr at *; omega)) (by first | exact hz _ _ | assumption | exact zr_b _ | exact zcmp_r _ _ | exact zr_t _ | (unfold zr at *; omega))) dX0_giveDevice_12 cw_RX0_62 okX9_isWithin rfl (Nat.le_of_ble_eq_true rfl) ⟨Nat.le_of_ble_eq_true rfl, Nat.le_of_ble_eq_true rfl, Nat.le_of_ble_eq_true rfl, Nat.le_of_ble_eq_true rfl⟩ ?_
    refine zx_if_eq (tgt := 30) (by first | exact hz _ _ | assumption | exact zr_b _ | exact zcmp_r _ _ | exact zr_t _ | (unfold zr at *; omega)) dX0_giveDevice_15 (by decide) (fun h15 => ?_) (fun h15 => ?_)
    · have h15 := zb_0.mp h15
      refine zx_vret rfl dX0_giveDevice_30 ?_
      rw [hQ]
      exact ⟨rfl, by first | rfl | (exfalso; omega)⟩
    · have h15 := zb_n.mp h15
      refine zx_aloadN dX0_giveDevice_18 rfl rfl ?_
      refine zy_getR (q' := a + 5) fl_RX0_28 rfl dX0_giveDevice_19 rfl ?_
      refine zx_iloadN dX0_giveDevice_22 rfl rfl ?_
      refine zx_dup2 rfl rfl dX0_giveDevice_23 ?_
      refine zy_iald (v := σ.1 (a + 5) p) rfl (by decide) (by decide) dX0_giveDevice_24 (by omega) (by omega) rfl ?_
      refine zx_iconst dX0_giveDevice_25 ?_
      refine zx_iloadN dX0_giveDevice_26 rfl rfl ?_
      refine zx_ishl dX0_giveDevice_27 ?_
      refine zx_ior dX0_giveDevice_28 ?_
      refine zy_iast (i := p) rfl (by decide) (by decide) dX0_giveDevice_29 (by omega) (by omega) rfl ?_
      refine zx_vret rfl dX0_giveDevice_30 ?_
      rw [hQ]
      exact ⟨rfl, by first | rfl | (exfalso; omega)⟩
set_option maxRecDepth 20000 in
set_option maxHeartbeats 2000000 in
theorem sX0_giveTypeface {l : Launch} {w : zW} (hfl : l.stackTraces = false) {σ : zS} {a p : Nat} {d : Int} (hz : zOK σ) (hp : (p : Int) < σ.1 a 0) (hP : 0 ≤ σ.1 a 0 ∧ σ.1 a 0 ≤ 8) (hd : 0 ≤ d ∧ d ≤ 15) : Sp l w mX0_giveTypeface 1 0 [zf 0 a, zi ((p : Nat) : Int), zi d] σ (zrtv (zput σ (a + 6) p (zor (σ.1 (a + 6) p) (zshl 1 d)))) := by
  obtain ⟨Q, hQ⟩ : ∃ Q : zQ, Q = (zrtv (zput σ (a + 6) p (zor (σ.1 (a + 6) p) (zshl 1 d)))) := ⟨_, rfl⟩
  rw [← hQ]
  refine zx_enter hfl (by decide) rfl 0 rfl ?_
  show zX l w mX0_giveTypeface (zMQ w 1 0 Q) 0 [zf 0 a, zi ((p : Nat) : Int), zi d] [] 0 σ
  refine zx_aloadN dX0_giveTypeface_0 rfl rfl ?_
  refine zx_iloadN dX0_giveTypeface_1 rfl rfl ?_
  refine zy_cv [zi ((p : Nat) : Int)] (sX0_hasPrinter  hfl hz (by first | exact hz _ _ | assumption | exact zr_b _ | exact zcmp_r _ _ | exact zr_t _ | (unfold zr at *; omega))) dX0_giveTypeface_2 (by decide) rfl cw_RX0_58 okX0_hasPrinter rfl (Nat.le_of_ble_eq_true rfl) ⟨Nat.le_of_ble_eq_true rfl, Nat.le_of_ble_eq_true rfl, Nat.le_of_ble_eq_true rfl, Nat.le_of_ble_eq_true rfl⟩ ?_
  refine zx_if_eq (tgt := 30) (by first | exact hz _ _ | assumption | exact zr_b _ | exact zcmp_r _ _ | exact zr_t _ | (unfold zr at *; omega)) dX0_giveTypeface_5 (by decide) (fun h5 => ?_) (fun h5 => ?_)
  · have h5 := zb_0.mp h5
    refine zx_vret rfl dX0_giveTypeface_30 ?_
    rw [hQ]
    exact ⟨rfl, by first | rfl | (exfalso; omega)⟩
  · have h5 := zb_n.mp h5
    refine zx_iloadN dX0_giveTypeface_8 rfl rfl ?_
    refine zx_iconst dX0_giveTypeface_9 ?_
    refine zx_bipush dX0_giveTypeface_10 rfl ?_
    refine zy_cn [zi d, zi 0, zi 15] (sX9_isWithin  hfl hz (by first | exact hz _ _ | assumption | exact zr_b _ | exact zcmp_r _ _ | exact zr_t _ | (unfold zr at *; omega)) (by first | exact hz _ _ | assumption | exact zr_b _ | exact zcmp_r _ _ | exact zr_t _ | (unfold zr at *; omega)) (by first | exact hz _ _ | assumption | exact zr_b _ | exact zcmp_r _ _ | exact zr_t _ | (unfold zr at *; omega))) dX0_giveTypeface_12 cw_RX0_62 okX9_isWithin rfl (Nat.le_of_ble_eq_true rfl) ⟨Nat.le_of_ble_eq_true rfl, Nat.le_of_ble_eq_true rfl, Nat.le_of_ble_eq_true rfl, Nat.le_of_ble_eq_true rfl⟩ ?_
    refine zx_if_eq (tgt := 30) (by first | exact hz _ _ | assumption | exact zr_b _ | exact zcmp_r _ _ | exact zr_t _ | (unfold zr at *; omega)) dX0_giveTypeface_15 (by decide) (fun h15 => ?_) (fun h15 => ?_)
    · have h15 := zb_0.mp h15
      refine zx_vret rfl dX0_giveTypeface_30 ?_
      rw [hQ]
      exact ⟨rfl, by first | rfl | (exfalso; omega)⟩
    · have h15 := zb_n.mp h15
      refine zx_aloadN dX0_giveTypeface_18 rfl rfl ?_
      refine zy_getR (q' := a + 6) fl_RX0_31 rfl dX0_giveTypeface_19 rfl ?_
      refine zx_iloadN dX0_giveTypeface_22 rfl rfl ?_
      refine zx_dup2 rfl rfl dX0_giveTypeface_23 ?_
      refine zy_iald (v := σ.1 (a + 6) p) rfl (by decide) (by decide) dX0_giveTypeface_24 (by omega) (by omega) rfl ?_
      refine zx_iconst dX0_giveTypeface_25 ?_
      refine zx_iloadN dX0_giveTypeface_26 rfl rfl ?_
      refine zx_ishl dX0_giveTypeface_27 ?_
      refine zx_ior dX0_giveTypeface_28 ?_
      refine zy_iast (i := p) rfl (by decide) (by decide) dX0_giveTypeface_29 (by omega) (by omega) rfl ?_
      refine zx_vret rfl dX0_giveTypeface_30 ?_
      rw [hQ]
      exact ⟨rfl, by first | rfl | (exfalso; omega)⟩
set_option maxRecDepth 20000 in
set_option maxHeartbeats 2000000 in
theorem sX0_takeDevice {l : Launch} {w : zW} (hfl : l.stackTraces = false) {σ : zS} {a p : Nat} {d : Int} (hz : zOK σ) (hp : (p : Int) < σ.1 a 0) (hP : 0 ≤ σ.1 a 0 ∧ σ.1 a 0 ≤ 8) (hd : 0 ≤ d ∧ d ≤ 31) : Sp l w mX0_takeDevice 1 0 [zf 0 a, zi ((p : Nat) : Int), zi d] σ (zrtv (zput σ (a + 5) p (zand (σ.1 (a + 5) p) (zxor (zshl 1 d) (-1))))) := by
  obtain ⟨Q, hQ⟩ : ∃ Q : zQ, Q = (zrtv (zput σ (a + 5) p (zand (σ.1 (a + 5) p) (zxor (zshl 1 d) (-1))))) := ⟨_, rfl⟩
  rw [← hQ]
  refine zx_enter hfl (by decide) rfl 0 rfl ?_
  show zX l w mX0_takeDevice (zMQ w 1 0 Q) 0 [zf 0 a, zi ((p : Nat) : Int), zi d] [] 0 σ
  refine zx_aloadN dX0_takeDevice_0 rfl rfl ?_
  refine zx_iloadN dX0_takeDevice_1 rfl rfl ?_
  refine zy_cv [zi ((p : Nat) : Int)] (sX0_hasPrinter  hfl hz (by first | exact hz _ _ | assumption | exact zr_b _ | exact zcmp_r _ _ | exact zr_t _ | (unfold zr at *; omega))) dX0_takeDevice_2 (by decide) rfl cw_RX0_58 okX0_hasPrinter rfl (Nat.le_of_ble_eq_true rfl) ⟨Nat.le_of_ble_eq_true rfl, Nat.le_of_ble_eq_true rfl, Nat.le_of_ble_eq_true rfl, Nat.le_of_ble_eq_true rfl⟩ ?_
  refine zx_if_eq (tgt := 32) (by first | exact hz _ _ | assumption | exact zr_b _ | exact zcmp_r _ _ | exact zr_t _ | (unfold zr at *; omega)) dX0_takeDevice_5 (by decide) (fun h5 => ?_) (fun h5 => ?_)
  · have h5 := zb_0.mp h5
    refine zx_vret rfl dX0_takeDevice_32 ?_
    rw [hQ]
    exact ⟨rfl, by first | rfl | (exfalso; omega)⟩
  · have h5 := zb_n.mp h5
    refine zx_iloadN dX0_takeDevice_8 rfl rfl ?_
    refine zx_iconst dX0_takeDevice_9 ?_
    refine zx_bipush dX0_takeDevice_10 rfl ?_
    refine zy_cn [zi d, zi 0, zi 31] (sX9_isWithin  hfl hz (by first | exact hz _ _ | assumption | exact zr_b _ | exact zcmp_r _ _ | exact zr_t _ | (unfold zr at *; omega)) (by first | exact hz _ _ | assumption | exact zr_b _ | exact zcmp_r _ _ | exact zr_t _ | (unfold zr at *; omega)) (by first | exact hz _ _ | assumption | exact zr_b _ | exact zcmp_r _ _ | exact zr_t _ | (unfold zr at *; omega))) dX0_takeDevice_12 cw_RX0_62 okX9_isWithin rfl (Nat.le_of_ble_eq_true rfl) ⟨Nat.le_of_ble_eq_true rfl, Nat.le_of_ble_eq_true rfl, Nat.le_of_ble_eq_true rfl, Nat.le_of_ble_eq_true rfl⟩ ?_
    refine zx_if_eq (tgt := 32) (by first | exact hz _ _ | assumption | exact zr_b _ | exact zcmp_r _ _ | exact zr_t _ | (unfold zr at *; omega)) dX0_takeDevice_15 (by decide) (fun h15 => ?_) (fun h15 => ?_)
    · have h15 := zb_0.mp h15
      refine zx_vret rfl dX0_takeDevice_32 ?_
      rw [hQ]
      exact ⟨rfl, by first | rfl | (exfalso; omega)⟩
    · have h15 := zb_n.mp h15
      refine zx_aloadN dX0_takeDevice_18 rfl rfl ?_
      refine zy_getR (q' := a + 5) fl_RX0_28 rfl dX0_takeDevice_19 rfl ?_
      refine zx_iloadN dX0_takeDevice_22 rfl rfl ?_
      refine zx_dup2 rfl rfl dX0_takeDevice_23 ?_
      refine zy_iald (v := σ.1 (a + 5) p) rfl (by decide) (by decide) dX0_takeDevice_24 (by omega) (by omega) rfl ?_
      refine zx_iconst dX0_takeDevice_25 ?_
      refine zx_iloadN dX0_takeDevice_26 rfl rfl ?_
      refine zx_ishl dX0_takeDevice_27 ?_
      refine zx_iconst dX0_takeDevice_28 ?_
      refine zx_ixor dX0_takeDevice_29 ?_
      refine zx_iand dX0_takeDevice_30 ?_
      refine zy_iast (i := p) rfl (by decide) (by decide) dX0_takeDevice_31 (by omega) (by omega) rfl ?_
      refine zx_vret rfl dX0_takeDevice_32 ?_
      rw [hQ]
      exact ⟨rfl, by first | rfl | (exfalso; omega)⟩

