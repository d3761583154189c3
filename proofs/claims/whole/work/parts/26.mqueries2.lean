abbrev mX10_margin : zM := (yX10_margin, cX10_margin, 2, (some .int), [])
theorem okX10_margin : zMok mX10_margin 0 := ⟨by decide, by decide, by decide +kernel⟩
theorem dX10_margin_0 : decode cX10_margin 0 = .ok (.aload_n 0, 1) := by decide +kernel
theorem dX10_margin_1 : decode cX10_margin 1 = .ok (.iconst 0, 1) := by decide +kernel
theorem dX10_margin_2 : decode cX10_margin 2 = .ok (.putfield 67, 3) := by decide +kernel
theorem dX10_margin_5 : decode cX10_margin 5 = .ok (.aload_n 0, 1) := by decide +kernel
theorem dX10_margin_6 : decode cX10_margin 6 = .ok (.invokevirtual 151, 3) := by decide +kernel
theorem dX10_margin_9 : decode cX10_margin 9 = .ok (.aload_n 0, 1) := by decide +kernel
theorem dX10_margin_10 : decode cX10_margin 10 = .ok (.iconst 1, 1) := by decide +kernel
theorem dX10_margin_11 : decode cX10_margin 11 = .ok (.invokevirtual 154, 3) := by decide +kernel
theorem dX10_margin_14 : decode cX10_margin 14 = .ok (.istore_n 1, 1) := by decide +kernel
theorem dX10_margin_15 : decode cX10_margin 15 = .ok (.aload_n 0, 1) := by decide +kernel
theorem dX10_margin_16 : decode cX10_margin 16 = .ok (.getfield 28, 3) := by decide +kernel
theorem dX10_margin_19 : decode cX10_margin 19 = .ok (.aload_n 0, 1) := by decide +kernel
theorem dX10_margin_20 : decode cX10_margin 20 = .ok (.iconst 0, 1) := by decide +kernel
theorem dX10_margin_21 : decode cX10_margin 21 = .ok (.invokevirtual 154, 3) := by decide +kernel
theorem dX10_margin_24 : decode cX10_margin 24 = .ok (.iaload, 1) := by decide +kernel
theorem dX10_margin_25 : decode cX10_margin 25 = .ok (.iload_n 1, 1) := by decide +kernel
theorem dX10_margin_26 : decode cX10_margin 26 = .ok (.iconst (-1), 1) := by decide +kernel
theorem dX10_margin_27 : decode cX10_margin 27 = .ok (.if_icmp .ne 7, 3) := by decide +kernel
theorem dX10_margin_34 : decode cX10_margin 34 = .ok (.aload_n 0, 1) := by decide +kernel
theorem dX10_margin_35 : decode cX10_margin 35 = .ok (.getfield 28, 3) := by decide +kernel
theorem dX10_margin_38 : decode cX10_margin 38 = .ok (.iload_n 1, 1) := by decide +kernel
theorem dX10_margin_39 : decode cX10_margin 39 = .ok (.iaload, 1) := by decide +kernel
theorem dX10_margin_40 : decode cX10_margin 40 = .ok (.isub, 1) := by decide +kernel
theorem dX10_margin_41 : decode cX10_margin 41 = .ok (.ireturn, 1) := by decide +kernel
theorem dX10_margin_30 : decode cX10_margin 30 = .ok (.iconst 0, 1) := by decide +kernel
theorem dX10_margin_31 : decode cX10_margin 31 = .ok (.goto 9, 3) := by decide +kernel
abbrev mX10_unexplainedCount : zM := (yX10_unexplainedCount, cX10_unexplainedCount, 1, (some .int), [])
theorem okX10_unexplainedCount : zMok mX10_unexplainedCount 0 := ⟨by decide, by decide, by decide +kernel⟩
theorem dX10_unexplainedCount_0 : decode cX10_unexplainedCount 0 = .ok (.aload_n 0, 1) := by decide +kernel
theorem dX10_unexplainedCount_1 : decode cX10_unexplainedCount 1 = .ok (.aload_n 0, 1) := by decide +kernel
theorem dX10_unexplainedCount_2 : decode cX10_unexplainedCount 2 = .ok (.aload_n 0, 1) := by decide +kernel
theorem dX10_unexplainedCount_3 : decode cX10_unexplainedCount 3 = .ok (.invokevirtual 166, 3) := by decide +kernel
theorem dX10_unexplainedCount_6 : decode cX10_unexplainedCount 6 = .ok (.invokevirtual 217, 3) := by decide +kernel
theorem cw_RX10_217 : zCwV RX10 217 mX10_openMany := zall [2076, 2078, 96, 128, 2079] (by decide +kernel) (by decide +kernel)
theorem dX10_unexplainedCount_9 : decode cX10_unexplainedCount 9 = .ok (.invokevirtual 397, 3) := by decide +kernel
theorem dX10_unexplainedCount_12 : decode cX10_unexplainedCount 12 = .ok (.ireturn, 1) := by decide +kernel
abbrev mX10_unexplainedClue : zM := (yX10_unexplainedClue, cX10_unexplainedClue, 6, (some .int), [])
theorem okX10_unexplainedClue : zMok mX10_unexplainedClue 1 := ⟨by decide, by decide, by decide +kernel⟩
theorem dX10_unexplainedClue_0 : decode cX10_unexplainedClue 0 = .ok (.aload_n 0, 1) := by decide +kernel
theorem dX10_unexplainedClue_1 : decode cX10_unexplainedClue 1 = .ok (.iconst 0, 1) := by decide +kernel
theorem dX10_unexplainedClue_2 : decode cX10_unexplainedClue 2 = .ok (.putfield 67, 3) := by decide +kernel
theorem dX10_unexplainedClue_5 : decode cX10_unexplainedClue 5 = .ok (.aload_n 0, 1) := by decide +kernel
theorem dX10_unexplainedClue_6 : decode cX10_unexplainedClue 6 = .ok (.invokevirtual 166, 3) := by decide +kernel
theorem dX10_unexplainedClue_9 : decode cX10_unexplainedClue 9 = .ok (.istore_n 2, 1) := by decide +kernel
theorem dX10_unexplainedClue_10 : decode cX10_unexplainedClue 10 = .ok (.iload_n 1, 1) := by decide +kernel
theorem dX10_unexplainedClue_11 : decode cX10_unexplainedClue 11 = .ok (.istore_n 3, 1) := by decide +kernel
theorem dX10_unexplainedClue_12 : decode cX10_unexplainedClue 12 = .ok (.iconst 0, 1) := by decide +kernel
theorem dX10_unexplainedClue_13 : decode cX10_unexplainedClue 13 = .ok (.istore 4, 2) := by decide +kernel
theorem dX10_unexplainedClue_15 : decode cX10_unexplainedClue 15 = .ok (.iload 4, 2) := by decide +kernel
theorem dX10_unexplainedClue_17 : decode cX10_unexplainedClue 17 = .ok (.aload_n 0, 1) := by decide +kernel
theorem dX10_unexplainedClue_18 : decode cX10_unexplainedClue 18 = .ok (.getfield 7, 3) := by decide +kernel
theorem dX10_unexplainedClue_21 : decode cX10_unexplainedClue 21 = .ok (.iconst 3, 1) := by decide +kernel
theorem dX10_unexplainedClue_22 : decode cX10_unexplainedClue 22 = .ok (.iaload, 1) := by decide +kernel
theorem dX10_unexplainedClue_23 : decode cX10_unexplainedClue 23 = .ok (.if_icmp .ge 40, 3) := by decide +kernel
theorem dX10_unexplainedClue_63 : decode cX10_unexplainedClue 63 = .ok (.iconst (-1), 1) := by decide +kernel
theorem dX10_unexplainedClue_64 : decode cX10_unexplainedClue 64 = .ok (.ireturn, 1) := by decide +kernel
theorem dX10_unexplainedClue_26 : decode cX10_unexplainedClue 26 = .ok (.aload_n 0, 1) := by decide +kernel
theorem dX10_unexplainedClue_27 : decode cX10_unexplainedClue 27 = .ok (.iload 4, 2) := by decide +kernel
theorem dX10_unexplainedClue_29 : decode cX10_unexplainedClue 29 = .ok (.invokevirtual 413, 3) := by decide +kernel
theorem dX10_unexplainedClue_32 : decode cX10_unexplainedClue 32 = .ok (.istore 5, 2) := by decide +kernel
theorem dX10_unexplainedClue_34 : decode cX10_unexplainedClue 34 = .ok (.aload_n 0, 1) := by decide +kernel
theorem dX10_unexplainedClue_35 : decode cX10_unexplainedClue 35 = .ok (.iload 5, 2) := by decide +kernel
theorem dX10_unexplainedClue_37 : decode cX10_unexplainedClue 37 = .ok (.iload_n 2, 1) := by decide +kernel
theorem dX10_unexplainedClue_38 : decode cX10_unexplainedClue 38 = .ok (.invokevirtual 178, 3) := by decide +kernel
theorem dX10_unexplainedClue_41 : decode cX10_unexplainedClue 41 = .ok (.ifCond .ne 6, 3) := by decide +kernel
theorem dX10_unexplainedClue_47 : decode cX10_unexplainedClue 47 = .ok (.iload_n 3, 1) := by decide +kernel
theorem dX10_unexplainedClue_48 : decode cX10_unexplainedClue 48 = .ok (.ifCond .ne 6, 3) := by decide +kernel
theorem dX10_unexplainedClue_54 : decode cX10_unexplainedClue 54 = .ok (.iinc 3 (-1), 3) := by decide +kernel
theorem dX10_unexplainedClue_57 : decode cX10_unexplainedClue 57 = .ok (.iinc 4 1, 3) := by decide +kernel
theorem dX10_unexplainedClue_60 : decode cX10_unexplainedClue 60 = .ok (.goto (-45), 3) := by decide +kernel
theorem dX10_unexplainedClue_51 : decode cX10_unexplainedClue 51 = .ok (.iload 5, 2) := by decide +kernel
theorem dX10_unexplainedClue_53 : decode cX10_unexplainedClue 53 = .ok (.ireturn, 1) := by decide +kernel
theorem dX10_unexplainedClue_44 : decode cX10_unexplainedClue 44 = .ok (.goto 13, 3) := by decide +kernel
abbrev mX10_matchingEdition : zM := (yX10_matchingEdition, cX10_matchingEdition, 4, (some .int), [])
theorem okX10_matchingEdition : zMok mX10_matchingEdition 0 := ⟨by decide, by decide, by decide +kernel⟩
theorem dX10_matchingEdition_0 : decode cX10_matchingEdition 0 = .ok (.aload_n 0, 1) := by decide +kernel
theorem dX10_matchingEdition_1 : decode cX10_matchingEdition 1 = .ok (.iconst 0, 1) := by decide +kernel
theorem dX10_matchingEdition_2 : decode cX10_matchingEdition 2 = .ok (.putfield 67, 3) := by decide +kernel
theorem dX10_matchingEdition_5 : decode cX10_matchingEdition 5 = .ok (.aload_n 0, 1) := by decide +kernel
theorem dX10_matchingEdition_6 : decode cX10_matchingEdition 6 = .ok (.invokevirtual 166, 3) := by decide +kernel
theorem dX10_matchingEdition_9 : decode cX10_matchingEdition 9 = .ok (.istore_n 1, 1) := by decide +kernel
theorem dX10_matchingEdition_10 : decode cX10_matchingEdition 10 = .ok (.iconst 0, 1) := by decide +kernel
theorem dX10_matchingEdition_11 : decode cX10_matchingEdition 11 = .ok (.istore_n 2, 1) := by decide +kernel
theorem dX10_matchingEdition_12 : decode cX10_matchingEdition 12 = .ok (.iload_n 2, 1) := by decide +kernel
theorem dX10_matchingEdition_13 : decode cX10_matchingEdition 13 = .ok (.aload_n 0, 1) := by decide +kernel
theorem dX10_matchingEdition_14 : decode cX10_matchingEdition 14 = .ok (.getfield 7, 3) := by decide +kernel
theorem dX10_matchingEdition_17 : decode cX10_matchingEdition 17 = .ok (.iconst 2, 1) := by decide +kernel
theorem dX10_matchingEdition_18 : decode cX10_matchingEdition 18 = .ok (.iaload, 1) := by decide +kernel
theorem dX10_matchingEdition_19 : decode cX10_matchingEdition 19 = .ok (.if_icmp .ge 48, 3) := by decide +kernel
theorem dX10_matchingEdition_67 : decode cX10_matchingEdition 67 = .ok (.iconst (-1), 1) := by decide +kernel
theorem dX10_matchingEdition_68 : decode cX10_matchingEdition 68 = .ok (.ireturn, 1) := by decide +kernel
theorem dX10_matchingEdition_22 : decode cX10_matchingEdition 22 = .ok (.bipush 116, 2) := by decide +kernel
theorem dX10_matchingEdition_24 : decode cX10_matchingEdition 24 = .ok (.iconst 2, 1) := by decide +kernel
theorem dX10_matchingEdition_25 : decode cX10_matchingEdition 25 = .ok (.iload_n 2, 1) := by decide +kernel
theorem dX10_matchingEdition_26 : decode cX10_matchingEdition 26 = .ok (.imul, 1) := by decide +kernel
theorem dX10_matchingEdition_27 : decode cX10_matchingEdition 27 = .ok (.iadd, 1) := by decide +kernel
theorem dX10_matchingEdition_28 : decode cX10_matchingEdition 28 = .ok (.istore_n 3, 1) := by decide +kernel
theorem dX10_matchingEdition_29 : decode cX10_matchingEdition 29 = .ok (.aload_n 0, 1) := by decide +kernel
theorem dX10_matchingEdition_30 : decode cX10_matchingEdition 30 = .ok (.getfield 7, 3) := by decide +kernel
theorem dX10_matchingEdition_33 : decode cX10_matchingEdition 33 = .ok (.iload_n 3, 1) := by decide +kernel
theorem dX10_matchingEdition_34 : decode cX10_matchingEdition 34 = .ok (.iaload, 1) := by decide +kernel
theorem dX10_matchingEdition_35 : decode cX10_matchingEdition 35 = .ok (.aload_n 0, 1) := by decide +kernel
theorem dX10_matchingEdition_36 : decode cX10_matchingEdition 36 = .ok (.getfield 163, 3) := by decide +kernel
theorem dX10_matchingEdition_39 : decode cX10_matchingEdition 39 = .ok (.if_icmp .ne 22, 3) := by decide +kernel
theorem dX10_matchingEdition_61 : decode cX10_matchingEdition 61 = .ok (.iinc 2 1, 3) := by decide +kernel
theorem dX10_matchingEdition_64 : decode cX10_matchingEdition 64 = .ok (.goto (-52), 3) := by decide +kernel
theorem dX10_matchingEdition_42 : decode cX10_matchingEdition 42 = .ok (.aload_n 0, 1) := by decide +kernel
theorem dX10_matchingEdition_43 : decode cX10_matchingEdition 43 = .ok (.getfield 7, 3) := by decide +kernel
theorem dX10_matchingEdition_46 : decode cX10_matchingEdition 46 = .ok (.iload_n 3, 1) := by decide +kernel
theorem dX10_matchingEdition_47 : decode cX10_matchingEdition 47 = .ok (.iconst 1, 1) := by decide +kernel
theorem dX10_matchingEdition_48 : decode cX10_matchingEdition 48 = .ok (.iadd, 1) := by decide +kernel
theorem dX10_matchingEdition_49 : decode cX10_matchingEdition 49 = .ok (.iaload, 1) := by decide +kernel
theorem dX10_matchingEdition_50 : decode cX10_matchingEdition 50 = .ok (.iload_n 1, 1) := by decide +kernel
theorem dX10_matchingEdition_51 : decode cX10_matchingEdition 51 = .ok (.isub, 1) := by decide +kernel
theorem dX10_matchingEdition_52 : decode cX10_matchingEdition 52 = .ok (.invokestatic 422, 3) := by decide +kernel
theorem mw_RX10_422 : ∀ x ∈ ([.methodLink RX10 422 Lib.Math.abs.name, .static Lib.Math.abs.name, .initialized "java/lang/Math", .code Lib.Math.abs.name Lib.Math.abs.code 1 (some .int)] : List Cond), x ∈ zgood := zall [2092, 914, 134, 915] (by decide +kernel) (by decide +kernel)
theorem dX10_matchingEdition_55 : decode cX10_matchingEdition 55 = .ok (.iconst 1, 1) := by decide +kernel
theorem dX10_matchingEdition_56 : decode cX10_matchingEdition 56 = .ok (.if_icmp .gt 5, 3) := by decide +kernel
theorem dX10_matchingEdition_59 : decode cX10_matchingEdition 59 = .ok (.iload_n 2, 1) := by decide +kernel
theorem dX10_matchingEdition_60 : decode cX10_matchingEdition 60 = .ok (.ireturn, 1) := by decide +kernel
abbrev mX10_contradict : zM := (yX10_contradict, cX10_contradict, 3, (some .boolean), [])
theorem okX10_contradict : zMok mX10_contradict 2 := ⟨by decide, by decide, by decide +kernel⟩
theorem dX10_contradict_0 : decode cX10_contradict 0 = .ok (.aload_n 0, 1) := by decide +kernel
theorem dX10_contradict_1 : decode cX10_contradict 1 = .ok (.aload_n 0, 1) := by decide +kernel
theorem dX10_contradict_2 : decode cX10_contradict 2 = .ok (.iload_n 1, 1) := by decide +kernel
theorem dX10_contradict_3 : decode cX10_contradict 3 = .ok (.invokevirtual 205, 3) := by decide +kernel
theorem dX10_contradict_6 : decode cX10_contradict 6 = .ok (.ifCond .eq 15, 3) := by decide +kernel
theorem dX10_contradict_21 : decode cX10_contradict 21 = .ok (.iconst 0, 1) := by decide +kernel
theorem dX10_contradict_22 : decode cX10_contradict 22 = .ok (.invokevirtual 220, 3) := by decide +kernel
theorem dX10_contradict_25 : decode cX10_contradict 25 = .ok (.ifCond .eq 16, 3) := by decide +kernel
theorem dX10_contradict_41 : decode cX10_contradict 41 = .ok (.iconst 0, 1) := by decide +kernel
theorem dX10_contradict_42 : decode cX10_contradict 42 = .ok (.ireturn, 1) := by decide +kernel
theorem dX10_contradict_9 : decode cX10_contradict 9 = .ok (.aload_n 0, 1) := by decide +kernel
theorem dX10_contradict_10 : decode cX10_contradict 10 = .ok (.iload_n 2, 1) := by decide +kernel
theorem dX10_contradict_11 : decode cX10_contradict 11 = .ok (.invokevirtual 205, 3) := by decide +kernel
theorem dX10_contradict_14 : decode cX10_contradict 14 = .ok (.ifCond .eq 7, 3) := by decide +kernel
theorem dX10_contradict_17 : decode cX10_contradict 17 = .ok (.iconst 1, 1) := by decide +kernel
theorem dX10_contradict_18 : decode cX10_contradict 18 = .ok (.goto 4, 3) := by decide +kernel
theorem dX10_contradict_28 : decode cX10_contradict 28 = .ok (.aload_n 0, 1) := by decide +kernel
theorem dX10_contradict_29 : decode cX10_contradict 29 = .ok (.iload_n 1, 1) := by decide +kernel
theorem dX10_contradict_30 : decode cX10_contradict 30 = .ok (.iload_n 2, 1) := by decide +kernel
theorem dX10_contradict_31 : decode cX10_contradict 31 = .ok (.invokevirtual 425, 3) := by decide +kernel
theorem cw_RX10_425 : zCwV RX10 425 mX10_areAgainst := zall [2097, 2099, 98, 128, 2100] (by decide +kernel) (by decide +kernel)
theorem dX10_contradict_34 : decode cX10_contradict 34 = .ok (.ifCond .eq 7, 3) := by decide +kernel
theorem dX10_contradict_37 : decode cX10_contradict 37 = .ok (.iconst 1, 1) := by decide +kernel
theorem dX10_contradict_38 : decode cX10_contradict 38 = .ok (.goto 4, 3) := by decide +kernel
abbrev mX10_contradictionsOf : zM := (yX10_contradictionsOf, cX10_contradictionsOf, 4, (some .int), [])
theorem okX10_contradictionsOf : zMok mX10_contradictionsOf 1 := ⟨by decide, by decide, by decide +kernel⟩
theorem dX10_contradictionsOf_0 : decode cX10_contradictionsOf 0 = .ok (.aload_n 0, 1) := by decide +kernel
theorem dX10_contradictionsOf_1 : decode cX10_contradictionsOf 1 = .ok (.aload_n 0, 1) := by decide +kernel
theorem dX10_contradictionsOf_2 : decode cX10_contradictionsOf 2 = .ok (.iload_n 1, 1) := by decide +kernel
theorem dX10_contradictionsOf_3 : decode cX10_contradictionsOf 3 = .ok (.invokevirtual 205, 3) := by decide +kernel
theorem dX10_contradictionsOf_6 : decode cX10_contradictionsOf 6 = .ok (.invokevirtual 220, 3) := by decide +kernel
theorem dX10_contradictionsOf_9 : decode cX10_contradictionsOf 9 = .ok (.ifCond .ne 5, 3) := by decide +kernel
theorem dX10_contradictionsOf_12 : decode cX10_contradictionsOf 12 = .ok (.iconst 0, 1) := by decide +kernel
theorem dX10_contradictionsOf_13 : decode cX10_contradictionsOf 13 = .ok (.ireturn, 1) := by decide +kernel
theorem dX10_contradictionsOf_14 : decode cX10_contradictionsOf 14 = .ok (.iconst 0, 1) := by decide +kernel
theorem dX10_contradictionsOf_15 : decode cX10_contradictionsOf 15 = .ok (.istore_n 2, 1) := by decide +kernel
theorem dX10_contradictionsOf_16 : decode cX10_contradictionsOf 16 = .ok (.iconst 0, 1) := by decide +kernel
theorem dX10_contradictionsOf_17 : decode cX10_contradictionsOf 17 = .ok (.istore_n 3, 1) := by decide +kernel
theorem dX10_contradictionsOf_18 : decode cX10_contradictionsOf 18 = .ok (.iload_n 3, 1) := by decide +kernel
theorem dX10_contradictionsOf_19 : decode cX10_contradictionsOf 19 = .ok (.aload_n 0, 1) := by decide +kernel
theorem dX10_contradictionsOf_20 : decode cX10_contradictionsOf 20 = .ok (.getfield 7, 3) := by decide +kernel
theorem dX10_contradictionsOf_23 : decode cX10_contradictionsOf 23 = .ok (.iconst 3, 1) := by decide +kernel
theorem dX10_contradictionsOf_24 : decode cX10_contradictionsOf 24 = .ok (.iaload, 1) := by decide +kernel
theorem dX10_contradictionsOf_25 : decode cX10_contradictionsOf 25 = .ok (.if_icmp .ge 21, 3) := by decide +kernel
theorem dX10_contradictionsOf_46 : decode cX10_contradictionsOf 46 = .ok (.iload_n 2, 1) := by decide +kernel
theorem dX10_contradictionsOf_47 : decode cX10_contradictionsOf 47 = .ok (.ireturn, 1) := by decide +kernel
theorem dX10_contradictionsOf_28 : decode cX10_contradictionsOf 28 = .ok (.iload_n 2, 1) := by decide +kernel
theorem dX10_contradictionsOf_29 : decode cX10_contradictionsOf 29 = .ok (.aload_n 0, 1) := by decide +kernel
theorem dX10_contradictionsOf_30 : decode cX10_contradictionsOf 30 = .ok (.iload_n 1, 1) := by decide +kernel
theorem dX10_contradictionsOf_31 : decode cX10_contradictionsOf 31 = .ok (.iload_n 3, 1) := by decide +kernel
theorem dX10_contradictionsOf_32 : decode cX10_contradictionsOf 32 = .ok (.invokevirtual 425, 3) := by decide +kernel
theorem dX10_contradictionsOf_35 : decode cX10_contradictionsOf 35 = .ok (.invokestatic 94, 3) := by decide +kernel
theorem dX10_contradictionsOf_38 : decode cX10_contradictionsOf 38 = .ok (.iadd, 1) := by decide +kernel
theorem dX10_contradictionsOf_39 : decode cX10_contradictionsOf 39 = .ok (.istore_n 2, 1) := by decide +kernel
theorem dX10_contradictionsOf_40 : decode cX10_contradictionsOf 40 = .ok (.iinc 3 1, 3) := by decide +kernel
theorem dX10_contradictionsOf_43 : decode cX10_contradictionsOf 43 = .ok (.goto (-25), 3) := by decide +kernel
abbrev mX10_impossibleClues : zM := (yX10_impossibleClues, cX10_impossibleClues, 3, (some .int), [])
theorem okX10_impossibleClues : zMok mX10_impossibleClues 0 := ⟨by decide, by decide, by decide +kernel⟩
theorem dX10_impossibleClues_0 : decode cX10_impossibleClues 0 = .ok (.aload_n 0, 1) := by decide +kernel
theorem dX10_impossibleClues_1 : decode cX10_impossibleClues 1 = .ok (.iconst 0, 1) := by decide +kernel
theorem dX10_impossibleClues_2 : decode cX10_impossibleClues 2 = .ok (.putfield 67, 3) := by decide +kernel
theorem dX10_impossibleClues_5 : decode cX10_impossibleClues 5 = .ok (.iconst 0, 1) := by decide +kernel
theorem dX10_impossibleClues_6 : decode cX10_impossibleClues 6 = .ok (.istore_n 1, 1) := by decide +kernel
theorem dX10_impossibleClues_7 : decode cX10_impossibleClues 7 = .ok (.iconst 0, 1) := by decide +kernel
theorem dX10_impossibleClues_8 : decode cX10_impossibleClues 8 = .ok (.istore_n 2, 1) := by decide +kernel
theorem dX10_impossibleClues_9 : decode cX10_impossibleClues 9 = .ok (.iload_n 2, 1) := by decide +kernel
theorem dX10_impossibleClues_10 : decode cX10_impossibleClues 10 = .ok (.aload_n 0, 1) := by decide +kernel
theorem dX10_impossibleClues_11 : decode cX10_impossibleClues 11 = .ok (.getfield 7, 3) := by decide +kernel
theorem dX10_impossibleClues_14 : decode cX10_impossibleClues 14 = .ok (.iconst 3, 1) := by decide +kernel
theorem dX10_impossibleClues_15 : decode cX10_impossibleClues 15 = .ok (.iaload, 1) := by decide +kernel
theorem dX10_impossibleClues_16 : decode cX10_impossibleClues 16 = .ok (.if_icmp .ge 29, 3) := by decide +kernel
theorem dX10_impossibleClues_45 : decode cX10_impossibleClues 45 = .ok (.iload_n 1, 1) := by decide +kernel
theorem dX10_impossibleClues_46 : decode cX10_impossibleClues 46 = .ok (.ireturn, 1) := by decide +kernel
theorem dX10_impossibleClues_19 : decode cX10_impossibleClues 19 = .ok (.iload_n 1, 1) := by decide +kernel
theorem dX10_impossibleClues_20 : decode cX10_impossibleClues 20 = .ok (.aload_n 0, 1) := by decide +kernel
theorem dX10_impossibleClues_21 : decode cX10_impossibleClues 21 = .ok (.iload_n 2, 1) := by decide +kernel
theorem dX10_impossibleClues_22 : decode cX10_impossibleClues 22 = .ok (.iload_n 2, 1) := by decide +kernel
theorem dX10_impossibleClues_23 : decode cX10_impossibleClues 23 = .ok (.invokevirtual 192, 3) := by decide +kernel
theorem dX10_impossibleClues_26 : decode cX10_impossibleClues 26 = .ok (.ifCond .ne 7, 3) := by decide +kernel
theorem dX10_impossibleClues_33 : decode cX10_impossibleClues 33 = .ok (.iconst 0, 1) := by decide +kernel
theorem dX10_impossibleClues_34 : decode cX10_impossibleClues 34 = .ok (.invokestatic 94, 3) := by decide +kernel
theorem dX10_impossibleClues_37 : decode cX10_impossibleClues 37 = .ok (.iadd, 1) := by decide +kernel
theorem dX10_impossibleClues_38 : decode cX10_impossibleClues 38 = .ok (.istore_n 1, 1) := by decide +kernel
theorem dX10_impossibleClues_39 : decode cX10_impossibleClues 39 = .ok (.iinc 2 1, 3) := by decide +kernel
theorem dX10_impossibleClues_42 : decode cX10_impossibleClues 42 = .ok (.goto (-33), 3) := by decide +kernel
theorem dX10_impossibleClues_29 : decode cX10_impossibleClues 29 = .ok (.iconst 1, 1) := by decide +kernel
theorem dX10_impossibleClues_30 : decode cX10_impossibleClues 30 = .ok (.goto 4, 3) := by decide +kernel

theorem mg_ok {D : zBk} (w : WF D) (h1 : 1 ≤ D 1 0) : rkP D (Ht D) 0 = ((wP D (Ht D) : Nat) : Int) ∧ (rkP D (Ht D) 1 = -1 → scd D (Ht D) = 0) ∧ (¬ rkP D (Ht D) 1 = -1 → scd D (Ht D) = tS D (Ht D) (rkP D (Ht D) 1).toNat ∧ (((rkP D (Ht D) 1).toNat : Nat) : Int) < D 1 0 ∧ 0 ≤ rkP D (Ht D) 1) := by
  obtain ⟨o, ho⟩ := rk_ex D (Ht D)
  refine ⟨wP_e w h1, fun h => ?_, fun h => ?_⟩
  · unfold scd
    by_cases e : 2 ≤ D 1 0
    · have e1 := ordOK_at ho (i := 1) (by omega)
      have e2 : rkP D (Ht D) 1 = _ := e1
      omega
    · rw [if_neg e]
  · by_cases e : 2 ≤ D 1 0
    · have e1 := ordOK_at ho (i := 1) (by omega)
      have e2 : rkP D (Ht D) 1 = _ := e1
      have e3 := ho.1 1 (by omega)
      unfold scd
      rw [if_pos e]
      exact ⟨rfl, by omega, by omega⟩
    · exact absurd (ordOK_no ho (r := 1) (by omega)) h
theorem z_wrap (a : Int) : Int32.ofInt a = Int32.ofInt (if a < -2147483648 then a + 4294967296 else a) := by
  split
  · apply Int32.toBitVec_inj.mp
    apply BitVec.eq_of_toNat_eq
    have h1 := z_nn a
    have h2 := z_nn (a + 4294967296)
    omega
  · rfl

set_option maxRecDepth 20000 in
set_option maxHeartbeats 2000000 in
theorem sX10_margin {l : Launch} {w : zW} (hfl : l.stackTraces = false) {σ : zS} {D : zBk}  (hz : zOK σ) (hW : WF D) (hR : Rel D (σ.1 262)) (hP1 : 1 ≤ D 1 0) : Sp l w mX10_margin 8 0 [zf 10 261] σ (zqv (some (zi (wS D (Ht D) - scd D (Ht D)))) (fun τ => zOK τ ∧ QP D σ τ ∧ τ.1 261 6 = 0)) := by
  obtain ⟨Q, hQ⟩ : ∃ Q : zQ, Q = (zqv (some (zi (wS D (Ht D) - scd D (Ht D)))) (fun τ => zOK τ ∧ QP D σ τ ∧ τ.1 261 6 = 0)) := ⟨_, rfl⟩
  rw [← hQ]
  refine zx_enter hfl (by decide) rfl 1 rfl ?_
  show zX l w mX10_margin (zMQ w 8 0 Q) 0 [zf 10 261, zu] [] 0 σ
  have hP : 0 ≤ D 1 0 ∧ D 1 0 ≤ 8 := hW.1.1
  have hM : 0 ≤ D 1 7 ∧ D 1 7 ≤ 8 := hW.1.2.1
  have hE : 0 ≤ D 1 10 ∧ D 1 10 ≤ 12 := hW.1.2.2.1
  have hK : 0 ≤ D 12 0 ∧ D 12 0 ≤ 40 := hW.1.2.2.2
  have r0 : σ.1 262 0 = D 1 0 := hR.1.1
  have r1 : σ.1 262 1 = D 1 7 := hR.1.2.1
  have r2 : σ.1 262 2 = D 1 10 := hR.1.2.2.1
  have r3 : σ.1 262 3 = D 12 0 := hR.1.2.2.2
  have hwl := wP_l (H := Ht D) hW hP1
  have hwb := wS_b hW
  have hyb := wY_b hW hP1
  have hzk := rkP_z (H := Ht D) hW
  have hz1 := hzk 1
  have hm := mg_ok hW hP1
  refine zx_aloadN dX10_margin_0 rfl rfl ?_
  refine zx_iconst dX10_margin_1 ?_
  refine zx_putI fl_RX10_67 rfl (Or.inl fp_10_6) dX10_margin_2 ?_
  refine zx_aloadN dX10_margin_5 rfl rfl ?_
  refine zy_cvvR [] (sX10_laysScores (D := D) hfl (zOK_put hz (by unfold zr; omega)) (by first | assumption | omega) (by first | assumption | (refine Rel_put (by decide) ?_; assumption) | (refine Rel_put (by decide) (Rel_put (by decide) ?_); assumption) | (refine Rel_put (by decide) (Rel_put (by decide) (Rel_put (by decide) ?_)); assumption))) dX10_margin_6 (by decide) rfl cw_RX10_151 okX10_laysScores rfl (Nat.le_of_ble_eq_true rfl) ⟨Nat.le_of_ble_eq_true rfl, Nat.le_of_ble_eq_true rfl, Nat.le_of_ble_eq_true rfl, Nat.le_of_ble_eq_true rfl⟩ (fun τ6 hr6 => ?_)
  have hz6 : zOK τ6 := hr6.1
  have hS := hr6.2.2
  refine zx_aloadN dX10_margin_9 rfl rfl ?_
  refine zx_iconst dX10_margin_10 ?_
  refine zy_cv [zi 1] (sX10_atRank (D := D) hfl hz6 (by first | assumption | omega) (mfr_R hr6.2.1 (by omega) (Rel_put (by decide) hR)) (by unfold zr; omega) hr6.2.2) dX10_margin_11 (by decide) rfl cw_RX10_154 okX10_atRank rfl (Nat.le_of_ble_eq_true rfl) ⟨Nat.le_of_ble_eq_true rfl, Nat.le_of_ble_eq_true rfl, Nat.le_of_ble_eq_true rfl, Nat.le_of_ble_eq_true rfl⟩ ?_
  refine zy_istoreN [zf 10 261, zi (rkP D (Ht D) 1)] dX10_margin_14 rfl (Nat.le_of_ble_eq_true rfl) (Nat.le_of_ble_eq_true rfl) rfl rfl ?_
  refine zx_aloadN dX10_margin_15 rfl rfl ?_
  refine zy_getR (q' := 268) fl_RX10_28 rfl dX10_margin_16 rfl ?_
  refine zx_aloadN dX10_margin_19 rfl rfl ?_
  refine zx_iconst dX10_margin_20 ?_
  refine zy_cv [zi 0] (sX10_atRank (D := D) hfl hz6 (by first | assumption | omega) (mfr_R hr6.2.1 (by omega) (Rel_put (by decide) hR)) (by unfold zr; omega) hr6.2.2) dX10_margin_21 (by decide) rfl cw_RX10_154 okX10_atRank rfl (Nat.le_of_ble_eq_true rfl) ⟨Nat.le_of_ble_eq_true rfl, Nat.le_of_ble_eq_true rfl, Nat.le_of_ble_eq_true rfl, Nat.le_of_ble_eq_true rfl⟩ ?_
  refine zy_top (b := ((wP D (Ht D) : Nat) : Int)) (hm.1) ?_
  refine zy_iald (v := τ6.1 268 (wP D (Ht D))) rfl (by decide) (by decide) dX10_margin_24 (by omega) (by omega) rfl ?_
  refine zx_iloadN dX10_margin_25 rfl rfl ?_
  refine zx_iconst dX10_margin_26 ?_
  refine zx_icmp_ne (tgt := 34) (by first | exact hz6 _ _ | assumption | exact zr_b _ | exact zcmp_r _ _ | (unfold zr at *; omega)) (by first | exact hz6 _ _ | assumption | exact zr_b _ | exact zcmp_r _ _ | (unfold zr at *; omega)) dX10_margin_27 (by decide) (fun h27 => ?_) (fun h27 => ?_)
  · refine zx_aloadN dX10_margin_34 rfl rfl ?_
    refine zy_getR (q' := 268) fl_RX10_28 rfl dX10_margin_35 rfl ?_
    have hrk1 := hm.2.2 (by omega)
    have hrk0 := hrk1.2
    refine zx_iloadN dX10_margin_38 rfl rfl ?_
    refine zy_iald (v := τ6.1 268 ((rkP D (Ht D) 1).toNat)) rfl (by decide) (by decide) dX10_margin_39 (by omega) (by omega) rfl ?_
    refine zx_isub dX10_margin_40 ?_
    refine zx_iret rfl rfl dX10_margin_41 ?_
    rw [hQ]
    refine ⟨congrArg (fun z : Int => (Sum.inl (some (zi z)) : Option zV ⊕ String)) ?_, ?_⟩
    · first
      | (have e := hm.2.1 (by omega); rw [e, hS _ hwl]; rfl)
      | (have e := hm.2.2 (by omega); rw [e.1, hS _ hwl, hS _ e.2.1]; rfl)
    exact ⟨hz6, (QP_a (QP_th (v := 0) hR) hr6.2.1 (by omega) (fun k q => by unfold qA; omega) (fun k q => by unfold qF; omega)), (hr6.2.1.2.1 6 (by omega)).trans (zput_s _ _ _ _)⟩
  · refine zx_iconst dX10_margin_30 ?_
    refine zx_goto (tgt := 40) dX10_margin_31 (by decide) ?_
    refine zx_isub dX10_margin_40 ?_
    refine zx_iret rfl rfl dX10_margin_41 ?_
    rw [hQ]
    refine ⟨congrArg (fun z : Int => (Sum.inl (some (zi z)) : Option zV ⊕ String)) ?_, ?_⟩
    · first
      | (have e := hm.2.1 (by omega); rw [e, hS _ hwl]; rfl)
      | (have e := hm.2.2 (by omega); rw [e.1, hS _ hwl, hS _ e.2.1]; rfl)
    exact ⟨hz6, (QP_a (QP_th (v := 0) hR) hr6.2.1 (by omega) (fun k q => by unfold qA; omega) (fun k q => by unfold qF; omega)), (hr6.2.1.2.1 6 (by omega)).trans (zput_s _ _ _ _)⟩
set_option maxRecDepth 20000 in
set_option maxHeartbeats 2000000 in
theorem sX10_unexplainedCount {l : Launch} {w : zW} (hfl : l.stackTraces = false) {σ : zS} {D : zBk}  (hz : zOK σ) (hW : WF D) (hR : Rel D (σ.1 262)) (hP1 : 1 ≤ D 1 0) : Sp l w mX10_unexplainedCount 11 0 [zf 10 261] σ (zqv (some (zi (zs (fun c => zb (opn D c)) (D 12 0).toNat))) (fun τ => zOK τ ∧ QP D σ τ ∧ τ.1 261 6 = 0)) := by
  obtain ⟨Q, hQ⟩ : ∃ Q : zQ, Q = (zqv (some (zi (zs (fun c => zb (opn D c)) (D 12 0).toNat))) (fun τ => zOK τ ∧ QP D σ τ ∧ τ.1 261 6 = 0)) := ⟨_, rfl⟩
  rw [← hQ]
  refine zx_enter hfl (by decide) rfl 0 rfl ?_
  show zX l w mX10_unexplainedCount (zMQ w 11 0 Q) 0 [zf 10 261] [] 0 σ
  have hP : 0 ≤ D 1 0 ∧ D 1 0 ≤ 8 := hW.1.1
  have hM : 0 ≤ D 1 7 ∧ D 1 7 ≤ 8 := hW.1.2.1
  have hE : 0 ≤ D 1 10 ∧ D 1 10 ≤ 12 := hW.1.2.2.1
  have hK : 0 ≤ D 12 0 ∧ D 12 0 ≤ 40 := hW.1.2.2.2
  have r0 : σ.1 262 0 = D 1 0 := hR.1.1
  have r1 : σ.1 262 1 = D 1 7 := hR.1.2.1
  have r2 : σ.1 262 2 = D 1 10 := hR.1.2.2.1
  have r3 : σ.1 262 3 = D 12 0 := hR.1.2.2.2
  have hwl := wP_l (H := Ht D) hW hP1
  have hwb := wS_b hW
  have hyb := wY_b hW hP1
  have hzy : zr (wY D (Ht D)) := by unfold zr; omega
  have hob := zsb_le (opn D) (D 12 0).toNat
  refine zx_aloadN dX10_unexplainedCount_0 rfl rfl ?_
  refine zx_aloadN dX10_unexplainedCount_1 rfl rfl ?_
  refine zx_aloadN dX10_unexplainedCount_2 rfl rfl ?_
  refine zy_cvR [] (sX10_yearOfVerdict (D := D) hfl hz (by first | assumption | omega) (by first | assumption | (refine Rel_put (by decide) ?_; assumption) | (refine Rel_put (by decide) (Rel_put (by decide) ?_); assumption) | (refine Rel_put (by decide) (Rel_put (by decide) (Rel_put (by decide) ?_)); assumption)) (by first | assumption | omega)) dX10_unexplainedCount_3 (by decide) rfl cw_RX10_166 okX10_yearOfVerdict rfl (Nat.le_of_ble_eq_true rfl) ⟨Nat.le_of_ble_eq_true rfl, Nat.le_of_ble_eq_true rfl, Nat.le_of_ble_eq_true rfl, Nat.le_of_ble_eq_true rfl⟩ (fun τ3 hr3 => ?_)
  have hz3 : zOK τ3 := hr3.1
  have hQv : QP D σ τ3 := (QP_m hr3.2.1 hR (by omega) (fun k q => by unfold qA; omega) (fun k q => by unfold qF; omega))
  have hRv := hQv.2
  have hw13 := hr3.2.2.1
  have v0 : τ3.1 262 0 = D 1 0 := hRv.1.1
  have v2 : τ3.1 262 2 = D 1 10 := hRv.1.2.2.1
  have v3 : τ3.1 262 3 = D 12 0 := hRv.1.2.2.2
  refine zy_cv [zi (wY D (Ht D))] (sX10_openMany (D := D) (u := (wP D (Ht D))) hfl hz3 (by first | assumption | omega) (by first | assumption | (refine Rel_put (by decide) ?_; assumption) | (refine Rel_put (by decide) (Rel_put (by decide) ?_); assumption) | (refine Rel_put (by decide) (Rel_put (by decide) (Rel_put (by decide) ?_)); assumption)) (by first | assumption | omega) (by first | assumption | omega) (by first | exact hz3 _ _ | assumption | exact zr_b _ | exact zcmp_r _ _ | (unfold zr at *; omega))) dX10_unexplainedCount_6 (by decide) rfl cw_RX10_217 okX10_openMany rfl (Nat.le_of_ble_eq_true rfl) ⟨Nat.le_of_ble_eq_true rfl, Nat.le_of_ble_eq_true rfl, Nat.le_of_ble_eq_true rfl, Nat.le_of_ble_eq_true rfl⟩ ?_
  refine zy_top (b := zs (fun c => zb (opn D c)) (D 12 0).toNat) (zs_congr (fun c _ => zb_c (opn_e hW hP1 c))) ?_
  refine zy_cv [zi (zs (fun c => zb (opn D c)) (D 12 0).toNat)] (sX10_tells  hfl hz3 (by first | exact hz3 _ _ | assumption | exact zr_b _ | exact zcmp_r _ _ | (unfold zr at *; omega))) dX10_unexplainedCount_9 (by decide) rfl cw_RX10_397 okX10_tells rfl (Nat.le_of_ble_eq_true rfl) ⟨Nat.le_of_ble_eq_true rfl, Nat.le_of_ble_eq_true rfl, Nat.le_of_ble_eq_true rfl, Nat.le_of_ble_eq_true rfl⟩ ?_
  refine zx_iret rfl rfl dX10_unexplainedCount_12 ?_
  rw [hQ]
  refine ⟨congrArg (fun z : Int => (Sum.inl (some (zi z)) : Option zV ⊕ String)) ?_, ?_⟩
  · rfl
  exact ⟨(zOK_put hz3 (by unfold zr; omega)), QP_tr hQv (QP_th hQv.2), zput_s _ _ _ _⟩
set_option maxRecDepth 20000 in
set_option maxHeartbeats 2000000 in
theorem sX10_unexplainedClue {l : Launch} {w : zW} (hfl : l.stackTraces = false) {σ : zS} {D : zBk} {x : Int} (hz : zOK σ) (hW : WF D) (hR : Rel D (σ.1 262)) (hP1 : 1 ≤ D 1 0) (hx : zr x) : Sp l w mX10_unexplainedClue 11 0 [zf 10 261, zi x] σ (zqv (some (zi (unx D x))) (fun τ => zOK τ ∧ QP D σ τ ∧ τ.1 261 6 = 0)) := by
  obtain ⟨Q, hQ⟩ : ∃ Q : zQ, Q = (zqv (some (zi (unx D x))) (fun τ => zOK τ ∧ QP D σ τ ∧ τ.1 261 6 = 0)) := ⟨_, rfl⟩
  rw [← hQ]
  refine zx_enter hfl (by decide) rfl 4 rfl ?_
  show zX l w mX10_unexplainedClue (zMQ w 11 0 Q) 0 [zf 10 261, zi x, zu, zu, zu, zu] [] 0 σ
  have hP : 0 ≤ D 1 0 ∧ D 1 0 ≤ 8 := hW.1.1
  have hM : 0 ≤ D 1 7 ∧ D 1 7 ≤ 8 := hW.1.2.1
  have hE : 0 ≤ D 1 10 ∧ D 1 10 ≤ 12 := hW.1.2.2.1
  have hK : 0 ≤ D 12 0 ∧ D 12 0 ≤ 40 := hW.1.2.2.2
  have r0 : σ.1 262 0 = D 1 0 := hR.1.1
  have r1 : σ.1 262 1 = D 1 7 := hR.1.2.1
  have r2 : σ.1 262 2 = D 1 10 := hR.1.2.2.1
  have r3 : σ.1 262 3 = D 12 0 := hR.1.2.2.2
  have hwl := wP_l (H := Ht D) hW hP1
  have hwb := wS_b hW
  have hyb := wY_b hW hP1
  have hzy : zr (wY D (Ht D)) := by unfold zr; omega
  refine zx_aloadN dX10_unexplainedClue_0 rfl rfl ?_
  refine zx_iconst dX10_unexplainedClue_1 ?_
  refine zx_putI fl_RX10_67 rfl (Or.inl fp_10_6) dX10_unexplainedClue_2 ?_
  refine zx_aloadN dX10_unexplainedClue_5 rfl rfl ?_
  refine zy_cvR [] (sX10_yearOfVerdict (D := D) hfl (zOK_put hz (by unfold zr; omega)) (by first | assumption | omega) (by first | assumption | (refine Rel_put (by decide) ?_; assumption) | (refine Rel_put (by decide) (Rel_put (by decide) ?_); assumption) | (refine Rel_put (by decide) (Rel_put (by decide) (Rel_put (by decide) ?_)); assumption)) (by first | assumption | omega)) dX10_unexplainedClue_6 (by decide) rfl cw_RX10_166 okX10_yearOfVerdict rfl (Nat.le_of_ble_eq_true rfl) ⟨Nat.le_of_ble_eq_true rfl, Nat.le_of_ble_eq_true rfl, Nat.le_of_ble_eq_true rfl, Nat.le_of_ble_eq_true rfl⟩ (fun τ6 hr6 => ?_)
  have hz6 : zOK τ6 := hr6.1
  have hQv : QP D σ τ6 := (QP_a (QP_th (v := 0) hR) hr6.2.1 (by omega) (fun k q => by unfold qA; omega) (fun k q => by unfold qF; omega))
  have hRv := hQv.2
  have hw13 := hr6.2.2.1
  have h6v : τ6.1 261 6 = 0 := (hr6.2.1.2.1 6 (by omega)).trans (zput_s _ _ _ _)
  have v0 : τ6.1 262 0 = D 1 0 := hRv.1.1
  have v2 : τ6.1 262 2 = D 1 10 := hRv.1.2.2.1
  have v3 : τ6.1 262 3 = D 12 0 := hRv.1.2.2.2
  refine zy_istoreN [zf 10 261, zi x, zi (wY D (Ht D)), zu, zu, zu] dX10_unexplainedClue_9 rfl (Nat.le_of_ble_eq_true rfl) (Nat.le_of_ble_eq_true rfl) rfl rfl ?_
  refine zx_iloadN dX10_unexplainedClue_10 rfl rfl ?_
  refine zy_istoreN [zf 10 261, zi x, zi (wY D (Ht D)), zi x, zu, zu] dX10_unexplainedClue_11 rfl (Nat.le_of_ble_eq_true rfl) (Nat.le_of_ble_eq_true rfl) rfl rfl ?_
  refine zx_iconst dX10_unexplainedClue_12 ?_
  refine zy_istore [zf 10 261, zi x, zi (wY D (Ht D)), zi x, zi 0, zu] dX10_unexplainedClue_13 (Nat.le_of_ble_eq_true rfl) (Nat.le_of_ble_eq_true rfl) rfl rfl ?_
  have L15 : ∀ (N : Nat) (p : Nat) (lf : Int), ((p : Int) ≤ D 12 0) → (lf = (if x - zs (fun i => zb (opn D (D 19 i).toNat)) p < -2147483648 then x - zs (fun i => zb (opn D (D 19 i).toNat)) p + 4294967296 else x - zs (fun i => zb (opn D (D 19 i).toNat)) p)) → (∀ q, q < p → ¬ (opn D (D 19 q).toNat ∧ zs (fun i => zb (opn D (D 19 i).toNat)) q = x)) → (41 - p) < N → zX l w mX10_unexplainedClue (zMQ w 11 0 Q) 15 [zf 10 261, zi x, zi (wY D (Ht D)), zi lf, zi ((p : Nat) : Int), zu] [] 0 τ6 := by
    intro N
    induction N with
    | zero => intro p lf _ _ _ _; exact absurd (by assumption) (Nat.not_lt_zero _)
    | succ N ih15 =>
      intro p lf hp_ hlf hj hN
      have hab := zsb_le (fun i => opn D (D 19 i).toNat) p
      have hlz : zr lf := by unfold zr at *; rw [hlf]; split <;> omega
      refine zx_iload dX10_unexplainedClue_15 rfl ?_
      refine zx_aloadN dX10_unexplainedClue_17 rfl rfl ?_
      refine zy_getR (q' := 262) fl_RX10_7 rfl dX10_unexplainedClue_18 rfl ?_
      refine zx_iconst dX10_unexplainedClue_21 ?_
      refine zy_iald (v := τ6.1 262 3) rfl (by decide) (by decide) dX10_unexplainedClue_22 (by omega) (by omega) rfl ?_
      refine zx_icmp_ge (tgt := 63) (by first | exact hz6 _ _ | assumption | exact zr_b _ | exact zcmp_r _ _ | (unfold zr at *; omega)) (by first | exact hz6 _ _ | assumption | exact zr_b _ | exact zcmp_r _ _ | (unfold zr at *; omega)) dX10_unexplainedClue_23 (by decide) (fun h23 => ?_) (fun h23 => ?_)
      · refine zx_iconst dX10_unexplainedClue_63 ?_
        refine zx_iret rfl rfl dX10_unexplainedClue_64 ?_
        rw [hQ]
        refine ⟨congrArg (fun z : Int => (Sum.inl (some (zi z)) : Option zV ⊕ String)) ?_, ?_⟩
        · first
          | exact (unx_no (fun j hj2 => hj j (by omega))).symm
          | (refine ((unx_at (i := p) hp hj ⟨by assumption, by have h48b := h48; rw [hlf] at h48b; unfold zr at hx; split at h48b <;> omega⟩).trans ?_).symm; omega)
        exact ⟨hz6, hQv, h6v⟩
      · have hp : (p : Int) < D 12 0 := by omega
        have hO := hW.2.2.2.2.2.1 p hp
        refine zx_aloadN dX10_unexplainedClue_26 rfl rfl ?_
        refine zx_iload dX10_unexplainedClue_27 rfl ?_
        refine zy_cv [zi ((p : Nat) : Int)] (sX10_inOrder (D := D) hfl hz6 (by first | assumption | omega) (by first | assumption | (refine Rel_put (by decide) ?_; assumption) | (refine Rel_put (by decide) (Rel_put (by decide) ?_); assumption) | (refine Rel_put (by decide) (Rel_put (by decide) (Rel_put (by decide) ?_)); assumption)) (by first | exact hz6 _ _ | assumption | exact zr_b _ | exact zcmp_r _ _ | (unfold zr at *; omega))) dX10_unexplainedClue_29 (by decide) rfl cw_RX10_413 okX10_inOrder rfl (Nat.le_of_ble_eq_true rfl) ⟨Nat.le_of_ble_eq_true rfl, Nat.le_of_ble_eq_true rfl, Nat.le_of_ble_eq_true rfl, Nat.le_of_ble_eq_true rfl⟩ ?_
        refine zy_top (b := if 0 ≤ ((p : Nat) : Int) ∧ ((p : Nat) : Int) < D 12 0 then D 19 p else -1) rfl ?_
        refine zy_top (b := (((D 19 p).toNat : Nat) : Int)) (by rw [if_pos (by omega)]; show D 19 p = _; omega) ?_
        refine zy_istore [zf 10 261, zi x, zi (wY D (Ht D)), zi lf, zi ((p : Nat) : Int), zi (((D 19 p).toNat : Nat) : Int)] dX10_unexplainedClue_32 (Nat.le_of_ble_eq_true rfl) (Nat.le_of_ble_eq_true rfl) rfl rfl ?_
        refine zx_aloadN dX10_unexplainedClue_34 rfl rfl ?_
        refine zx_iload dX10_unexplainedClue_35 rfl ?_
        refine zx_iloadN dX10_unexplainedClue_37 rfl rfl ?_
        refine zy_cv [zi (((D 19 p).toNat : Nat) : Int), zi (wY D (Ht D))] (sX10_isOpen (D := D) (u := (wP D (Ht D))) hfl hz6 (by first | assumption | omega) (by first | assumption | (refine Rel_put (by decide) ?_; assumption) | (refine Rel_put (by decide) (Rel_put (by decide) ?_); assumption) | (refine Rel_put (by decide) (Rel_put (by decide) (Rel_put (by decide) ?_)); assumption)) (by first | assumption | omega) hw13 hwl (by first | exact hz6 _ _ | assumption | exact zr_b _ | exact zcmp_r _ _ | (unfold zr at *; omega))) dX10_unexplainedClue_38 (by decide) rfl cw_RX10_178 okX10_isOpen rfl (Nat.le_of_ble_eq_true rfl) ⟨Nat.le_of_ble_eq_true rfl, Nat.le_of_ble_eq_true rfl, Nat.le_of_ble_eq_true rfl, Nat.le_of_ble_eq_true rfl⟩ ?_
        refine zy_top (b := zb (opn D (D 19 p).toNat)) (zb_c (opn_e hW hP1 _)) ?_
        refine zx_if_ne (tgt := 47) (by first | exact hz6 _ _ | assumption | exact zr_b _ | exact zcmp_r _ _ | (unfold zr at *; omega)) dX10_unexplainedClue_41 (by decide) (fun h41 => ?_) (fun h41 => ?_)
        · have h41 := zb_n.mp h41
          refine zx_iloadN dX10_unexplainedClue_47 rfl rfl ?_
          refine zx_if_ne (tgt := 54) (by first | exact hz6 _ _ | assumption | exact zr_b _ | exact zcmp_r _ _ | (unfold zr at *; omega)) dX10_unexplainedClue_48 (by decide) (fun h48 => ?_) (fun h48 => ?_)
          · refine zy_iinc (b := lf - 1) [zf 10 261, zi x, zi (wY D (Ht D)), zi (lf - 1), zi ((p : Nat) : Int), zi (((D 19 p).toNat : Nat) : Int)] dX10_unexplainedClue_54 rfl (by omega) (Nat.le_of_ble_eq_true rfl) rfl rfl ?_
            refine zy_re (j := 3) (b := (if lf - 1 < -2147483648 then lf - 1 + 4294967296 else lf - 1)) [zf 10 261, zi x, zi (wY D (Ht D)), zi (if lf - 1 < -2147483648 then lf - 1 + 4294967296 else lf - 1), zi ((p : Nat) : Int), zi (((D 19 p).toNat : Nat) : Int)] rfl (z_wrap _) rfl ?_
            refine zy_iinc (b := ((p + 1 : Nat) : Int)) [zf 10 261, zi x, zi (wY D (Ht D)), zi (if lf - 1 < -2147483648 then lf - 1 + 4294967296 else lf - 1), zi ((p + 1 : Nat) : Int), zi (((D 19 p).toNat : Nat) : Int)] dX10_unexplainedClue_57 rfl (by omega) (Nat.le_of_ble_eq_true rfl) rfl rfl ?_
            refine zx_goto (tgt := 15) dX10_unexplainedClue_60 (by decide) ?_
            refine zy_drop 5 [zf 10 261, zi x, zi (wY D (Ht D)), zi (if lf - 1 < -2147483648 then lf - 1 + 4294967296 else lf - 1), zi ((p + 1 : Nat) : Int), zu] rfl ?_
            exact ih15 (p + 1) (if lf - 1 < -2147483648 then lf - 1 + 4294967296 else lf - 1) (by first | assumption | omega) (by
        have e := zs_s (fun i => zb (opn D (D 19 i).toNat)) p
        first
        | (have z := zb_t (p := opn D (D 19 p).toNat) (by assumption)
           rw [hlf]; unfold zr at hx; (repeat' split) <;> omega)
        | (have z := zb_f (p := opn D (D 19 p).toNat) (by assumption)
           rw [hlf]; unfold zr at hx; (repeat' split) <;> omega)) (lt_s hj (fun q => by first | exact absurd q.1 (by assumption) | (have q2 := q.2; omega))) (by omega)
          · refine zx_iload dX10_unexplainedClue_51 rfl ?_
            refine zx_iret rfl rfl dX10_unexplainedClue_53 ?_
            rw [hQ]
            refine ⟨congrArg (fun z : Int => (Sum.inl (some (zi z)) : Option zV ⊕ String)) ?_, ?_⟩
            · first
              | exact (unx_no (fun j hj2 => hj j (by omega))).symm
              | (refine ((unx_at (i := p) hp hj ⟨by assumption, by have h48b := h48; rw [hlf] at h48b; unfold zr at hx; split at h48b <;> omega⟩).trans ?_).symm; omega)
            exact ⟨hz6, hQv, h6v⟩
        · have h41 := zb_0.mp h41
          refine zx_goto (tgt := 57) dX10_unexplainedClue_44 (by decide) ?_
          refine zy_iinc (b := ((p + 1 : Nat) : Int)) [zf 10 261, zi x, zi (wY D (Ht D)), zi lf, zi ((p + 1 : Nat) : Int), zi (((D 19 p).toNat : Nat) : Int)] dX10_unexplainedClue_57 rfl (by omega) (Nat.le_of_ble_eq_true rfl) rfl rfl ?_
          refine zx_goto (tgt := 15) dX10_unexplainedClue_60 (by decide) ?_
          refine zy_drop 5 [zf 10 261, zi x, zi (wY D (Ht D)), zi lf, zi ((p + 1 : Nat) : Int), zu] rfl ?_
          exact ih15 (p + 1) lf (by first | assumption | omega) (by
        have e := zs_s (fun i => zb (opn D (D 19 i).toNat)) p
        first
        | (have z := zb_t (p := opn D (D 19 p).toNat) (by assumption)
           rw [hlf]; unfold zr at hx; (repeat' split) <;> omega)
        | (have z := zb_f (p := opn D (D 19 p).toNat) (by assumption)
           rw [hlf]; unfold zr at hx; (repeat' split) <;> omega)) (lt_s hj (fun q => by first | exact absurd q.1 (by assumption) | (have q2 := q.2; omega))) (by omega)
  exact L15 _ 0 x (by first | assumption | omega) (by have e0 : zs (fun i => zb (opn D (D 19 i).toNat)) 0 = 0 := rfl; rw [e0, if_neg (by unfold zr at hx; omega)]; omega) lt_0 (Nat.lt_succ_self _)
set_option maxRecDepth 20000 in
set_option maxHeartbeats 2000000 in
theorem sX10_matchingEdition {l : Launch} {w : zW} (hfl : l.stackTraces = false) {σ : zS} {D : zBk}  (hz : zOK σ) (hW : WF D) (hR : Rel D (σ.1 262)) (hP1 : 1 ≤ D 1 0) : Sp l w mX10_matchingEdition 11 0 [zf 10 261] σ (zqv (some (zi (mEd D))) (fun τ => zOK τ ∧ QP D σ τ ∧ τ.1 261 6 = 0)) := by
  obtain ⟨Q, hQ⟩ : ∃ Q : zQ, Q = (zqv (some (zi (mEd D))) (fun τ => zOK τ ∧ QP D σ τ ∧ τ.1 261 6 = 0)) := ⟨_, rfl⟩
  rw [← hQ]
  refine zx_enter hfl (by decide) rfl 3 rfl ?_
  show zX l w mX10_matchingEdition (zMQ w 11 0 Q) 0 [zf 10 261, zu, zu, zu] [] 0 σ
  have hP : 0 ≤ D 1 0 ∧ D 1 0 ≤ 8 := hW.1.1
  have hM : 0 ≤ D 1 7 ∧ D 1 7 ≤ 8 := hW.1.2.1
  have hE : 0 ≤ D 1 10 ∧ D 1 10 ≤ 12 := hW.1.2.2.1
  have hK : 0 ≤ D 12 0 ∧ D 12 0 ≤ 40 := hW.1.2.2.2
  have r0 : σ.1 262 0 = D 1 0 := hR.1.1
  have r1 : σ.1 262 1 = D 1 7 := hR.1.2.1
  have r2 : σ.1 262 2 = D 1 10 := hR.1.2.2.1
  have r3 : σ.1 262 3 = D 12 0 := hR.1.2.2.2
  have hwl := wP_l (H := Ht D) hW hP1
  have hwb := wS_b hW
  have hyb := wY_b hW hP1
  have hzy : zr (wY D (Ht D)) := by unfold zr; omega
  refine zx_aloadN dX10_matchingEdition_0 rfl rfl ?_
  refine zx_iconst dX10_matchingEdition_1 ?_
  refine zx_putI fl_RX10_67 rfl (Or.inl fp_10_6) dX10_matchingEdition_2 ?_
  refine zx_aloadN dX10_matchingEdition_5 rfl rfl ?_
  refine zy_cvR [] (sX10_yearOfVerdict (D := D) hfl (zOK_put hz (by unfold zr; omega)) (by first | assumption | omega) (by first | assumption | (refine Rel_put (by decide) ?_; assumption) | (refine Rel_put (by decide) (Rel_put (by decide) ?_); assumption) | (refine Rel_put (by decide) (Rel_put (by decide) (Rel_put (by decide) ?_)); assumption)) (by first | assumption | omega)) dX10_matchingEdition_6 (by decide) rfl cw_RX10_166 okX10_yearOfVerdict rfl (Nat.le_of_ble_eq_true rfl) ⟨Nat.le_of_ble_eq_true rfl, Nat.le_of_ble_eq_true rfl, Nat.le_of_ble_eq_true rfl, Nat.le_of_ble_eq_true rfl⟩ (fun τ6 hr6 => ?_)
  have hz6 : zOK τ6 := hr6.1
  have hQv : QP D σ τ6 := (QP_a (QP_th (v := 0) hR) hr6.2.1 (by omega) (fun k q => by unfold qA; omega) (fun k q => by unfold qF; omega))
  have hRv := hQv.2
  have hw13 := hr6.2.2.1
  have h6v : τ6.1 261 6 = 0 := (hr6.2.1.2.1 6 (by omega)).trans (zput_s _ _ _ _)
  have v0 : τ6.1 262 0 = D 1 0 := hRv.1.1
  have v2 : τ6.1 262 2 = D 1 10 := hRv.1.2.2.1
  have v3 : τ6.1 262 3 = D 12 0 := hRv.1.2.2.2
  refine zy_istoreN [zf 10 261, zi (wY D (Ht D)), zu, zu] dX10_matchingEdition_9 rfl (Nat.le_of_ble_eq_true rfl) (Nat.le_of_ble_eq_true rfl) rfl rfl ?_
  refine zx_iconst dX10_matchingEdition_10 ?_
  refine zy_istoreN [zf 10 261, zi (wY D (Ht D)), zi 0, zu] dX10_matchingEdition_11 rfl (Nat.le_of_ble_eq_true rfl) (Nat.le_of_ble_eq_true rfl) rfl rfl ?_
  have L12 : ∀ (N : Nat) (e : Nat), ((e : Int) ≤ D 1 10) → (∀ j, j < e → ¬ (D 10 j = (wP D (Ht D) : Nat) ∧ D 11 j - wY D (Ht D) ≤ 1 ∧ wY D (Ht D) - D 11 j ≤ 1)) → (13 - e) < N → zX l w mX10_matchingEdition (zMQ w 11 0 Q) 12 [zf 10 261, zi (wY D (Ht D)), zi ((e : Nat) : Int), zu] [] 0 τ6 := by
    intro N
    induction N with
    | zero => intro e _ _ _; exact absurd (by assumption) (Nat.not_lt_zero _)
    | succ N ih12 =>
      intro e he_ hj hN
      refine zx_iloadN dX10_matchingEdition_12 rfl rfl ?_
      refine zx_aloadN dX10_matchingEdition_13 rfl rfl ?_
      refine zy_getR (q' := 262) fl_RX10_7 rfl dX10_matchingEdition_14 rfl ?_
      refine zx_iconst dX10_matchingEdition_17 ?_
      refine zy_iald (v := τ6.1 262 2) rfl (by decide) (by decide) dX10_matchingEdition_18 (by omega) (by omega) rfl ?_
      refine zx_icmp_ge (tgt := 67) (by first | exact hz6 _ _ | assumption | exact zr_b _ | exact zcmp_r _ _ | (unfold zr at *; omega)) (by first | exact hz6 _ _ | assumption | exact zr_b _ | exact zcmp_r _ _ | (unfold zr at *; omega)) dX10_matchingEdition_19 (by decide) (fun h19 => ?_) (fun h19 => ?_)
      · refine zx_iconst dX10_matchingEdition_67 ?_
        refine zx_iret rfl rfl dX10_matchingEdition_68 ?_
        rw [hQ]
        refine ⟨congrArg (fun z : Int => (Sum.inl (some (zi z)) : Option zV ⊕ String)) ?_, ?_⟩
        · unfold mEd
          first | exact (zfst_no (fun j hj2 => hj j (by omega))).symm | exact (zfst_at (by omega) hj (by split at h56 <;> omega)).symm
        exact ⟨hz6, hQv, h6v⟩
      · have he : (e : Int) < D 1 10 := by omega
        have hed := hRv.2.2.2.1 e he
        have hey := hW.2.2.2.1 e he
        refine zx_bipush dX10_matchingEdition_22 rfl ?_
        refine zx_iconst dX10_matchingEdition_24 ?_
        refine zx_iloadN dX10_matchingEdition_25 rfl rfl ?_
        refine zx_imul dX10_matchingEdition_26 ?_
        refine zx_iadd dX10_matchingEdition_27 ?_
        refine zy_top (b := ((116 + 2 * e : Nat) : Int)) (by omega) ?_
        refine zy_istoreN [zf 10 261, zi (wY D (Ht D)), zi ((e : Nat) : Int), zi ((116 + 2 * e : Nat) : Int)] dX10_matchingEdition_28 rfl (Nat.le_of_ble_eq_true rfl) (Nat.le_of_ble_eq_true rfl) rfl rfl ?_
        refine zx_aloadN dX10_matchingEdition_29 rfl rfl ?_
        refine zy_getR (q' := 262) fl_RX10_7 rfl dX10_matchingEdition_30 rfl ?_
        refine zx_iloadN dX10_matchingEdition_33 rfl rfl ?_
        refine zy_iald (v := τ6.1 262 (116 + 2 * e)) rfl (by decide) (by decide) dX10_matchingEdition_34 (by omega) (by omega) rfl ?_
        refine zx_aloadN dX10_matchingEdition_35 rfl rfl ?_
        refine zy_getI fl_RX10_163 rfl dX10_matchingEdition_36 rfl ?_
        refine zx_icmp_ne (tgt := 61) (by first | exact hz6 _ _ | assumption | exact zr_b _ | exact zcmp_r _ _ | (unfold zr at *; omega)) (by first | exact hz6 _ _ | assumption | exact zr_b _ | exact zcmp_r _ _ | (unfold zr at *; omega)) dX10_matchingEdition_39 (by decide) (fun h39 => ?_) (fun h39 => ?_)
        · refine zy_iinc (b := ((e + 1 : Nat) : Int)) [zf 10 261, zi (wY D (Ht D)), zi ((e + 1 : Nat) : Int), zi ((116 + 2 * e : Nat) : Int)] dX10_matchingEdition_61 rfl (by omega) (Nat.le_of_ble_eq_true rfl) rfl rfl ?_
          refine zx_goto (tgt := 12) dX10_matchingEdition_64 (by decide) ?_
          refine zy_drop 3 [zf 10 261, zi (wY D (Ht D)), zi ((e + 1 : Nat) : Int), zu] rfl ?_
          exact ih12 (e + 1) (by first | assumption | omega) (lt_s hj (fun q => by first | (exfalso; omega) | (split at h56 <;> omega))) (by omega)
        · refine zx_aloadN dX10_matchingEdition_42 rfl rfl ?_
          refine zy_getR (q' := 262) fl_RX10_7 rfl dX10_matchingEdition_43 rfl ?_
          refine zx_iloadN dX10_matchingEdition_46 rfl rfl ?_
          refine zx_iconst dX10_matchingEdition_47 ?_
          refine zx_iadd dX10_matchingEdition_48 ?_
          refine zy_top (b := ((116 + 2 * e + 1 : Nat) : Int)) (by omega) ?_
          refine zy_iald (v := τ6.1 262 (116 + 2 * e + 1)) rfl (by decide) (by decide) dX10_matchingEdition_49 (by omega) (by omega) rfl ?_
          refine zx_iloadN dX10_matchingEdition_50 rfl rfl ?_
          refine zx_isub dX10_matchingEdition_51 ?_
          refine zx_abs (by first | exact hz6 _ _ | assumption | exact zr_b _ | exact zcmp_r _ _ | (unfold zr at *; omega)) mw_RX10_422 (Nat.le_of_ble_eq_true rfl) ⟨Nat.le_of_ble_eq_true rfl, Nat.le_of_ble_eq_true rfl⟩ dX10_matchingEdition_52 ?_
          have hab : zr (if 0 ≤ τ6.1 262 (116 + 2 * e + 1) - wY D (Ht D) then τ6.1 262 (116 + 2 * e + 1) - wY D (Ht D) else 0 - (τ6.1 262 (116 + 2 * e + 1) - wY D (Ht D))) := by split <;> (unfold zr; omega)
          refine zx_iconst dX10_matchingEdition_55 ?_
          refine zx_icmp_gt (tgt := 61) (by first | exact hz6 _ _ | assumption | exact zr_b _ | exact zcmp_r _ _ | (unfold zr at *; omega)) (by first | exact hz6 _ _ | assumption | exact zr_b _ | exact zcmp_r _ _ | (unfold zr at *; omega)) dX10_matchingEdition_56 (by decide) (fun h56 => ?_) (fun h56 => ?_)
          · refine zy_iinc (b := ((e + 1 : Nat) : Int)) [zf 10 261, zi (wY D (Ht D)), zi ((e + 1 : Nat) : Int), zi ((116 + 2 * e : Nat) : Int)] dX10_matchingEdition_61 rfl (by omega) (Nat.le_of_ble_eq_true rfl) rfl rfl ?_
            refine zx_goto (tgt := 12) dX10_matchingEdition_64 (by decide) ?_
            refine zy_drop 3 [zf 10 261, zi (wY D (Ht D)), zi ((e + 1 : Nat) : Int), zu] rfl ?_
            exact ih12 (e + 1) (by first | assumption | omega) (lt_s hj (fun q => by first | (exfalso; omega) | (split at h56 <;> omega))) (by omega)
          · refine zx_iloadN dX10_matchingEdition_59 rfl rfl ?_
            refine zx_iret rfl rfl dX10_matchingEdition_60 ?_
            rw [hQ]
            refine ⟨congrArg (fun z : Int => (Sum.inl (some (zi z)) : Option zV ⊕ String)) ?_, ?_⟩
            · unfold mEd
              first | exact (zfst_no (fun j hj2 => hj j (by omega))).symm | exact (zfst_at (by omega) hj (by split at h56 <;> omega)).symm
            exact ⟨hz6, hQv, h6v⟩
  exact L12 _ 0 (by first | assumption | omega) lt_0 (Nat.lt_succ_self _)
set_option maxRecDepth 20000 in
set_option maxHeartbeats 2000000 in
theorem sX10_contradict_t1 {l : Launch} {w : zW} (hfl : l.stackTraces = false) {σ : zS} {D : zBk} {x y : Int} (hz : zOK σ) (hW : WF D) (hR : Rel D (σ.1 262)) (hx : zr x) (hy : zr y) (hw0 : ¬ ((0 ≤ x ∧ x < D 12 0) ∧ 0 ≤ y ∧ y < D 12 0)) : Sp l w mX10_contradict 7 0 [zf 10 261, zi x, zi y] σ (zqv (some (zi 0)) (fun τ => zOK τ ∧ QP D σ τ ∧ τ.1 261 6 = 1)) := by
  obtain ⟨Q, hQ⟩ : ∃ Q : zQ, Q = (zqv (some (zi 0)) (fun τ => zOK τ ∧ QP D σ τ ∧ τ.1 261 6 = 1)) := ⟨_, rfl⟩
  rw [← hQ]
  refine zx_enter hfl (by decide) rfl 0 rfl ?_
  show zX l w mX10_contradict (zMQ w 7 0 Q) 0 [zf 10 261, zi x, zi y] [] 0 σ
  have hP : 0 ≤ D 1 0 ∧ D 1 0 ≤ 8 := hW.1.1
  have hM : 0 ≤ D 1 7 ∧ D 1 7 ≤ 8 := hW.1.2.1
  have hE : 0 ≤ D 1 10 ∧ D 1 10 ≤ 12 := hW.1.2.2.1
  have hK : 0 ≤ D 12 0 ∧ D 12 0 ≤ 40 := hW.1.2.2.2
  have r0 : σ.1 262 0 = D 1 0 := hR.1.1
  have r1 : σ.1 262 1 = D 1 7 := hR.1.2.1
  have r2 : σ.1 262 2 = D 1 10 := hR.1.2.2.1
  have r3 : σ.1 262 3 = D 12 0 := hR.1.2.2.2
  refine zx_aloadN dX10_contradict_0 rfl rfl ?_
  refine zx_aloadN dX10_contradict_1 rfl rfl ?_
  refine zx_iloadN dX10_contradict_2 rfl rfl ?_
  refine zy_cv [zi x] (sX10_isClue (D := D) hfl hz (by first | assumption | omega) (by first | assumption | (refine Rel_put (by decide) ?_; assumption) | (refine Rel_put (by decide) (Rel_put (by decide) ?_); assumption) | (refine Rel_put (by decide) (Rel_put (by decide) (Rel_put (by decide) ?_)); assumption)) (by first | exact hz _ _ | assumption | exact zr_b _ | exact zcmp_r _ _ | (unfold zr at *; omega))) dX10_contradict_3 (by decide) rfl cw_RX10_205 okX10_isClue rfl (Nat.le_of_ble_eq_true rfl) ⟨Nat.le_of_ble_eq_true rfl, Nat.le_of_ble_eq_true rfl, Nat.le_of_ble_eq_true rfl, Nat.le_of_ble_eq_true rfl⟩ ?_
  refine zx_if_eq (tgt := 21) (by first | exact hz _ _ | assumption | exact zr_b _ | exact zcmp_r _ _ | (unfold zr at *; omega)) dX10_contradict_6 (by decide) (fun h6 => ?_) (fun h6 => ?_)
  · have h6 := zb_0.mp h6
    refine zx_iconst dX10_contradict_21 ?_
    refine zy_top (b := zb ((0 ≤ x ∧ x < D 12 0) ∧ 0 ≤ y ∧ y < D 12 0)) (by first | exact (zb_t (by exact ⟨by assumption, by assumption⟩)).symm | exact (zb_f (fun q => absurd q.1 (by assumption))).symm | exact (zb_f (fun q => absurd q.2 (by assumption))).symm) ?_
    refine zy_cv [zi (zb ((0 ≤ x ∧ x < D 12 0) ∧ 0 ≤ y ∧ y < D 12 0))] (sX10_passes (A := ((0 ≤ x ∧ x < D 12 0) ∧ 0 ≤ y ∧ y < D 12 0)) hfl hz ) dX10_contradict_22 (by decide) rfl cw_RX10_220 okX10_passes rfl (Nat.le_of_ble_eq_true rfl) ⟨Nat.le_of_ble_eq_true rfl, Nat.le_of_ble_eq_true rfl, Nat.le_of_ble_eq_true rfl, Nat.le_of_ble_eq_true rfl⟩ ?_
    refine zx_if_eq (tgt := 41) (by first | exact hz _ _ | assumption | exact zr_b _ | exact zcmp_r _ _ | (unfold zr at *; omega)) dX10_contradict_25 (by decide) (fun h25 => ?_) (fun h25 => ?_)
    · have h25 := zb_0.mp h25
      refine zx_iconst dX10_contradict_41 ?_
      refine zx_iret rfl rfl dX10_contradict_42 ?_
      rw [hQ]
      refine ⟨congrArg (fun z : Int => (Sum.inl (some (zi z)) : Option zV ⊕ String)) ?_, ?_⟩
      · rfl
      exact ⟨(zOK_put hz (zr_b _)), QP_th hR, (zput_s _ _ _ _).trans (zb_t hw0)⟩
    · have h25 := zb_n.mp h25
      first | exact absurd (by assumption) hw0 | (exfalso; omega)
  · have h6 := zb_n.mp h6
    refine zx_aloadN dX10_contradict_9 rfl rfl ?_
    refine zx_iloadN dX10_contradict_10 rfl rfl ?_
    refine zy_cv [zi y] (sX10_isClue (D := D) hfl hz (by first | assumption | omega) (by first | assumption | (refine Rel_put (by decide) ?_; assumption) | (refine Rel_put (by decide) (Rel_put (by decide) ?_); assumption) | (refine Rel_put (by decide) (Rel_put (by decide) (Rel_put (by decide) ?_)); assumption)) (by first | exact hz _ _ | assumption | exact zr_b _ | exact zcmp_r _ _ | (unfold zr at *; omega))) dX10_contradict_11 (by decide) rfl cw_RX10_205 okX10_isClue rfl (Nat.le_of_ble_eq_true rfl) ⟨Nat.le_of_ble_eq_true rfl, Nat.le_of_ble_eq_true rfl, Nat.le_of_ble_eq_true rfl, Nat.le_of_ble_eq_true rfl⟩ ?_
    refine zx_if_eq (tgt := 21) (by first | exact hz _ _ | assumption | exact zr_b _ | exact zcmp_r _ _ | (unfold zr at *; omega)) dX10_contradict_14 (by decide) (fun h14 => ?_) (fun h14 => ?_)
    · have h14 := zb_0.mp h14
      refine zx_iconst dX10_contradict_21 ?_
      refine zy_top (b := zb ((0 ≤ x ∧ x < D 12 0) ∧ 0 ≤ y ∧ y < D 12 0)) (by first | exact (zb_t (by exact ⟨by assumption, by assumption⟩)).symm | exact (zb_f (fun q => absurd q.1 (by assumption))).symm | exact (zb_f (fun q => absurd q.2 (by assumption))).symm) ?_
      refine zy_cv [zi (zb ((0 ≤ x ∧ x < D 12 0) ∧ 0 ≤ y ∧ y < D 12 0))] (sX10_passes (A := ((0 ≤ x ∧ x < D 12 0) ∧ 0 ≤ y ∧ y < D 12 0)) hfl hz ) dX10_contradict_22 (by decide) rfl cw_RX10_220 okX10_passes rfl (Nat.le_of_ble_eq_true rfl) ⟨Nat.le_of_ble_eq_true rfl, Nat.le_of_ble_eq_true rfl, Nat.le_of_ble_eq_true rfl, Nat.le_of_ble_eq_true rfl⟩ ?_
      refine zx_if_eq (tgt := 41) (by first | exact hz _ _ | assumption | exact zr_b _ | exact zcmp_r _ _ | (unfold zr at *; omega)) dX10_contradict_25 (by decide) (fun h25 => ?_) (fun h25 => ?_)
      · have h25 := zb_0.mp h25
        refine zx_iconst dX10_contradict_41 ?_
        refine zx_iret rfl rfl dX10_contradict_42 ?_
        rw [hQ]
        refine ⟨congrArg (fun z : Int => (Sum.inl (some (zi z)) : Option zV ⊕ String)) ?_, ?_⟩
        · rfl
        exact ⟨(zOK_put hz (zr_b _)), QP_th hR, (zput_s _ _ _ _).trans (zb_t hw0)⟩
      · have h25 := zb_n.mp h25
        first | exact absurd (by assumption) hw0 | (exfalso; omega)
    · have h14 := zb_n.mp h14
      refine zx_iconst dX10_contradict_17 ?_
      refine zx_goto (tgt := 22) dX10_contradict_18 (by decide) ?_
      refine zy_top (b := zb ((0 ≤ x ∧ x < D 12 0) ∧ 0 ≤ y ∧ y < D 12 0)) (by first | exact (zb_t (by exact ⟨by assumption, by assumption⟩)).symm | exact (zb_f (fun q => absurd q.1 (by assumption))).symm | exact (zb_f (fun q => absurd q.2 (by assumption))).symm) ?_
      refine zy_cv [zi (zb ((0 ≤ x ∧ x < D 12 0) ∧ 0 ≤ y ∧ y < D 12 0))] (sX10_passes (A := ((0 ≤ x ∧ x < D 12 0) ∧ 0 ≤ y ∧ y < D 12 0)) hfl hz ) dX10_contradict_22 (by decide) rfl cw_RX10_220 okX10_passes rfl (Nat.le_of_ble_eq_true rfl) ⟨Nat.le_of_ble_eq_true rfl, Nat.le_of_ble_eq_true rfl, Nat.le_of_ble_eq_true rfl, Nat.le_of_ble_eq_true rfl⟩ ?_
      refine zx_if_eq (tgt := 41) (by first | exact hz _ _ | assumption | exact zr_b _ | exact zcmp_r _ _ | (unfold zr at *; omega)) dX10_contradict_25 (by decide) (fun h25 => ?_) (fun h25 => ?_)
      · have h25 := zb_0.mp h25
        refine zx_iconst dX10_contradict_41 ?_
        refine zx_iret rfl rfl dX10_contradict_42 ?_
        rw [hQ]
        refine ⟨congrArg (fun z : Int => (Sum.inl (some (zi z)) : Option zV ⊕ String)) ?_, ?_⟩
        · rfl
        exact ⟨(zOK_put hz (zr_b _)), QP_th hR, (zput_s _ _ _ _).trans (zb_t hw0)⟩
      · have h25 := zb_n.mp h25
        first | exact absurd (by assumption) hw0 | (exfalso; omega)
set_option maxRecDepth 20000 in
set_option maxHeartbeats 2000000 in
theorem sX10_contradict {l : Launch} {w : zW} (hfl : l.stackTraces = false) {σ : zS} {D : zBk} {x y : Int} (hz : zOK σ) (hW : WF D) (hR : Rel D (σ.1 262)) (hx : zr x) (hy : zr y) (hw0 : (0 ≤ x ∧ x < D 12 0) ∧ 0 ≤ y ∧ y < D 12 0) : Sp l w mX10_contradict 7 0 [zf 10 261, zi x, zi y] σ (zqv (some (zi (zb (¬ x = y ∧ ¬ tog D x.toNat y.toNat)))) (fun τ => zOK τ ∧ QP D σ τ ∧ τ.1 261 6 = 0)) := by
  obtain ⟨Q, hQ⟩ : ∃ Q : zQ, Q = (zqv (some (zi (zb (¬ x = y ∧ ¬ tog D x.toNat y.toNat)))) (fun τ => zOK τ ∧ QP D σ τ ∧ τ.1 261 6 = 0)) := ⟨_, rfl⟩
  rw [← hQ]
  refine zx_enter hfl (by decide) rfl 0 rfl ?_
  show zX l w mX10_contradict (zMQ w 7 0 Q) 0 [zf 10 261, zi x, zi y] [] 0 σ
  have hP : 0 ≤ D 1 0 ∧ D 1 0 ≤ 8 := hW.1.1
  have hM : 0 ≤ D 1 7 ∧ D 1 7 ≤ 8 := hW.1.2.1
  have hE : 0 ≤ D 1 10 ∧ D 1 10 ≤ 12 := hW.1.2.2.1
  have hK : 0 ≤ D 12 0 ∧ D 12 0 ≤ 40 := hW.1.2.2.2
  have r0 : σ.1 262 0 = D 1 0 := hR.1.1
  have r1 : σ.1 262 1 = D 1 7 := hR.1.2.1
  have r2 : σ.1 262 2 = D 1 10 := hR.1.2.2.1
  have r3 : σ.1 262 3 = D 12 0 := hR.1.2.2.2
  have ex : x = ((x.toNat : Nat) : Int) := by omega
  have ey : y = ((y.toNat : Nat) : Int) := by omega
  refine zx_aloadN dX10_contradict_0 rfl rfl ?_
  refine zx_aloadN dX10_contradict_1 rfl rfl ?_
  refine zx_iloadN dX10_contradict_2 rfl rfl ?_
  refine zy_cv [zi x] (sX10_isClue (D := D) hfl hz (by first | assumption | omega) (by first | assumption | (refine Rel_put (by decide) ?_; assumption) | (refine Rel_put (by decide) (Rel_put (by decide) ?_); assumption) | (refine Rel_put (by decide) (Rel_put (by decide) (Rel_put (by decide) ?_)); assumption)) (by first | exact hz _ _ | assumption | exact zr_b _ | exact zcmp_r _ _ | (unfold zr at *; omega))) dX10_contradict_3 (by decide) rfl cw_RX10_205 okX10_isClue rfl (Nat.le_of_ble_eq_true rfl) ⟨Nat.le_of_ble_eq_true rfl, Nat.le_of_ble_eq_true rfl, Nat.le_of_ble_eq_true rfl, Nat.le_of_ble_eq_true rfl⟩ ?_
  refine zx_if_eq (tgt := 21) (by first | exact hz _ _ | assumption | exact zr_b _ | exact zcmp_r _ _ | (unfold zr at *; omega)) dX10_contradict_6 (by decide) (fun h6 => ?_) (fun h6 => ?_)
  · have h6 := zb_0.mp h6
    refine zx_iconst dX10_contradict_21 ?_
    refine zy_top (b := zb ((0 ≤ x ∧ x < D 12 0) ∧ 0 ≤ y ∧ y < D 12 0)) (by first | exact (zb_t (by exact ⟨by assumption, by assumption⟩)).symm | exact (zb_f (fun q => absurd q.1 (by assumption))).symm | exact (zb_f (fun q => absurd q.2 (by assumption))).symm) ?_
    refine zy_cv [zi (zb ((0 ≤ x ∧ x < D 12 0) ∧ 0 ≤ y ∧ y < D 12 0))] (sX10_passes (A := ((0 ≤ x ∧ x < D 12 0) ∧ 0 ≤ y ∧ y < D 12 0)) hfl hz ) dX10_contradict_22 (by decide) rfl cw_RX10_220 okX10_passes rfl (Nat.le_of_ble_eq_true rfl) ⟨Nat.le_of_ble_eq_true rfl, Nat.le_of_ble_eq_true rfl, Nat.le_of_ble_eq_true rfl, Nat.le_of_ble_eq_true rfl⟩ ?_
    refine zx_if_eq (tgt := 41) (by first | exact hz _ _ | assumption | exact zr_b _ | exact zcmp_r _ _ | (unfold zr at *; omega)) dX10_contradict_25 (by decide) (fun h25 => ?_) (fun h25 => ?_)
    · have h25 := zb_0.mp h25
      refine zx_iconst dX10_contradict_41 ?_
      refine zx_iret rfl rfl dX10_contradict_42 ?_
      rw [hQ]
      refine ⟨congrArg (fun z : Int => (Sum.inl (some (zi z)) : Option zV ⊕ String)) ?_, ?_⟩
      · first | exact absurd hw0 (by assumption) | exact (zb_t ⟨fun q => h34.1 (by omega), h34.2⟩).symm | exact (zb_f (fun q => h34 ⟨fun z => q.1 (by omega), q.2⟩)).symm
      exact ⟨(zOK_put hz (zr_b _)), QP_th hR, (zput_s _ _ _ _).trans (zb_f (fun q => q hw0))⟩
    · have h25 := zb_n.mp h25
      refine zx_aloadN dX10_contradict_28 rfl rfl ?_
      refine zx_iloadN dX10_contradict_29 rfl rfl ?_
      refine zy_top (b := ((x.toNat : Nat) : Int)) (ex) ?_
      refine zx_iloadN dX10_contradict_30 rfl rfl ?_
      refine zy_top (b := ((y.toNat : Nat) : Int)) (ey) ?_
      refine zy_cv [zi ((x.toNat : Nat) : Int), zi ((y.toNat : Nat) : Int)] (sX10_areAgainst (D := D) (c := x.toNat) (d := y.toNat) hfl (zOK_put hz (zr_b _)) (by first | assumption | omega) (by first | assumption | (refine Rel_put (by decide) ?_; assumption) | (refine Rel_put (by decide) (Rel_put (by decide) ?_); assumption) | (refine Rel_put (by decide) (Rel_put (by decide) (Rel_put (by decide) ?_)); assumption)) (by first | assumption | omega) (by first | assumption | omega)) dX10_contradict_31 (by decide) rfl cw_RX10_425 okX10_areAgainst rfl (Nat.le_of_ble_eq_true rfl) ⟨Nat.le_of_ble_eq_true rfl, Nat.le_of_ble_eq_true rfl, Nat.le_of_ble_eq_true rfl, Nat.le_of_ble_eq_true rfl⟩ ?_
      refine zx_if_eq (tgt := 41) (by first | exact hz _ _ | assumption | exact zr_b _ | exact zcmp_r _ _ | (unfold zr at *; omega)) dX10_contradict_34 (by decide) (fun h34 => ?_) (fun h34 => ?_)
      · have h34 := zb_0.mp h34
        refine zx_iconst dX10_contradict_41 ?_
        refine zx_iret rfl rfl dX10_contradict_42 ?_
        rw [hQ]
        refine ⟨congrArg (fun z : Int => (Sum.inl (some (zi z)) : Option zV ⊕ String)) ?_, ?_⟩
        · first | exact absurd hw0 (by assumption) | exact (zb_t ⟨fun q => h34.1 (by omega), h34.2⟩).symm | exact (zb_f (fun q => h34 ⟨fun z => q.1 (by omega), q.2⟩)).symm
        exact ⟨(zOK_put hz (zr_b _)), QP_th hR, (zput_s _ _ _ _).trans (zb_f (fun q => q hw0))⟩
      · have h34 := zb_n.mp h34
        refine zx_iconst dX10_contradict_37 ?_
        refine zx_goto (tgt := 42) dX10_contradict_38 (by decide) ?_
        refine zx_iret rfl rfl dX10_contradict_42 ?_
        rw [hQ]
        refine ⟨congrArg (fun z : Int => (Sum.inl (some (zi z)) : Option zV ⊕ String)) ?_, ?_⟩
        · first | exact absurd hw0 (by assumption) | exact (zb_t ⟨fun q => h34.1 (by omega), h34.2⟩).symm | exact (zb_f (fun q => h34 ⟨fun z => q.1 (by omega), q.2⟩)).symm
        exact ⟨(zOK_put hz (zr_b _)), QP_th hR, (zput_s _ _ _ _).trans (zb_f (fun q => q hw0))⟩
  · have h6 := zb_n.mp h6
    refine zx_aloadN dX10_contradict_9 rfl rfl ?_
    refine zx_iloadN dX10_contradict_10 rfl rfl ?_
    refine zy_cv [zi y] (sX10_isClue (D := D) hfl hz (by first | assumption | omega) (by first | assumption | (refine Rel_put (by decide) ?_; assumption) | (refine Rel_put (by decide) (Rel_put (by decide) ?_); assumption) | (refine Rel_put (by decide) (Rel_put (by decide) (Rel_put (by decide) ?_)); assumption)) (by first | exact hz _ _ | assumption | exact zr_b _ | exact zcmp_r _ _ | (unfold zr at *; omega))) dX10_contradict_11 (by decide) rfl cw_RX10_205 okX10_isClue rfl (Nat.le_of_ble_eq_true rfl) ⟨Nat.le_of_ble_eq_true rfl, Nat.le_of_ble_eq_true rfl, Nat.le_of_ble_eq_true rfl, Nat.le_of_ble_eq_true rfl⟩ ?_
    refine zx_if_eq (tgt := 21) (by first | exact hz _ _ | assumption | exact zr_b _ | exact zcmp_r _ _ | (unfold zr at *; omega)) dX10_contradict_14 (by decide) (fun h14 => ?_) (fun h14 => ?_)
    · have h14 := zb_0.mp h14
      refine zx_iconst dX10_contradict_21 ?_
      refine zy_top (b := zb ((0 ≤ x ∧ x < D 12 0) ∧ 0 ≤ y ∧ y < D 12 0)) (by first | exact (zb_t (by exact ⟨by assumption, by assumption⟩)).symm | exact (zb_f (fun q => absurd q.1 (by assumption))).symm | exact (zb_f (fun q => absurd q.2 (by assumption))).symm) ?_
      refine zy_cv [zi (zb ((0 ≤ x ∧ x < D 12 0) ∧ 0 ≤ y ∧ y < D 12 0))] (sX10_passes (A := ((0 ≤ x ∧ x < D 12 0) ∧ 0 ≤ y ∧ y < D 12 0)) hfl hz ) dX10_contradict_22 (by decide) rfl cw_RX10_220 okX10_passes rfl (Nat.le_of_ble_eq_true rfl) ⟨Nat.le_of_ble_eq_true rfl, Nat.le_of_ble_eq_true rfl, Nat.le_of_ble_eq_true rfl, Nat.le_of_ble_eq_true rfl⟩ ?_
      refine zx_if_eq (tgt := 41) (by first | exact hz _ _ | assumption | exact zr_b _ | exact zcmp_r _ _ | (unfold zr at *; omega)) dX10_contradict_25 (by decide) (fun h25 => ?_) (fun h25 => ?_)
      · have h25 := zb_0.mp h25
        refine zx_iconst dX10_contradict_41 ?_
        refine zx_iret rfl rfl dX10_contradict_42 ?_
        rw [hQ]
        refine ⟨congrArg (fun z : Int => (Sum.inl (some (zi z)) : Option zV ⊕ String)) ?_, ?_⟩
        · first | exact absurd hw0 (by assumption) | exact (zb_t ⟨fun q => h34.1 (by omega), h34.2⟩).symm | exact (zb_f (fun q => h34 ⟨fun z => q.1 (by omega), q.2⟩)).symm
        exact ⟨(zOK_put hz (zr_b _)), QP_th hR, (zput_s _ _ _ _).trans (zb_f (fun q => q hw0))⟩
      · have h25 := zb_n.mp h25
        refine zx_aloadN dX10_contradict_28 rfl rfl ?_
        refine zx_iloadN dX10_contradict_29 rfl rfl ?_
        refine zy_top (b := ((x.toNat : Nat) : Int)) (ex) ?_
        refine zx_iloadN dX10_contradict_30 rfl rfl ?_
        refine zy_top (b := ((y.toNat : Nat) : Int)) (ey) ?_
        refine zy_cv [zi ((x.toNat : Nat) : Int), zi ((y.toNat : Nat) : Int)] (sX10_areAgainst (D := D) (c := x.toNat) (d := y.toNat) hfl (zOK_put hz (zr_b _)) (by first | assumption | omega) (by first | assumption | (refine Rel_put (by decide) ?_; assumption) | (refine Rel_put (by decide) (Rel_put (by decide) ?_); assumption) | (refine Rel_put (by decide) (Rel_put (by decide) (Rel_put (by decide) ?_)); assumption)) (by first | assumption | omega) (by first | assumption | omega)) dX10_contradict_31 (by decide) rfl cw_RX10_425 okX10_areAgainst rfl (Nat.le_of_ble_eq_true rfl) ⟨Nat.le_of_ble_eq_true rfl, Nat.le_of_ble_eq_true rfl, Nat.le_of_ble_eq_true rfl, Nat.le_of_ble_eq_true rfl⟩ ?_
        refine zx_if_eq (tgt := 41) (by first | exact hz _ _ | assumption | exact zr_b _ | exact zcmp_r _ _ | (unfold zr at *; omega)) dX10_contradict_34 (by decide) (fun h34 => ?_) (fun h34 => ?_)
        · have h34 := zb_0.mp h34
          refine zx_iconst dX10_contradict_41 ?_
          refine zx_iret rfl rfl dX10_contradict_42 ?_
          rw [hQ]
          refine ⟨congrArg (fun z : Int => (Sum.inl (some (zi z)) : Option zV ⊕ String)) ?_, ?_⟩
          · first | exact absurd hw0 (by assumption) | exact (zb_t ⟨fun q => h34.1 (by omega), h34.2⟩).symm | exact (zb_f (fun q => h34 ⟨fun z => q.1 (by omega), q.2⟩)).symm
          exact ⟨(zOK_put hz (zr_b _)), QP_th hR, (zput_s _ _ _ _).trans (zb_f (fun q => q hw0))⟩
        · have h34 := zb_n.mp h34
          refine zx_iconst dX10_contradict_37 ?_
          refine zx_goto (tgt := 42) dX10_contradict_38 (by decide) ?_
          refine zx_iret rfl rfl dX10_contradict_42 ?_
          rw [hQ]
          refine ⟨congrArg (fun z : Int => (Sum.inl (some (zi z)) : Option zV ⊕ String)) ?_, ?_⟩
          · first | exact absurd hw0 (by assumption) | exact (zb_t ⟨fun q => h34.1 (by omega), h34.2⟩).symm | exact (zb_f (fun q => h34 ⟨fun z => q.1 (by omega), q.2⟩)).symm
          exact ⟨(zOK_put hz (zr_b _)), QP_th hR, (zput_s _ _ _ _).trans (zb_f (fun q => q hw0))⟩
    · have h14 := zb_n.mp h14
      refine zx_iconst dX10_contradict_17 ?_
      refine zx_goto (tgt := 22) dX10_contradict_18 (by decide) ?_
      refine zy_top (b := zb ((0 ≤ x ∧ x < D 12 0) ∧ 0 ≤ y ∧ y < D 12 0)) (by first | exact (zb_t (by exact ⟨by assumption, by assumption⟩)).symm | exact (zb_f (fun q => absurd q.1 (by assumption))).symm | exact (zb_f (fun q => absurd q.2 (by assumption))).symm) ?_
      refine zy_cv [zi (zb ((0 ≤ x ∧ x < D 12 0) ∧ 0 ≤ y ∧ y < D 12 0))] (sX10_passes (A := ((0 ≤ x ∧ x < D 12 0) ∧ 0 ≤ y ∧ y < D 12 0)) hfl hz ) dX10_contradict_22 (by decide) rfl cw_RX10_220 okX10_passes rfl (Nat.le_of_ble_eq_true rfl) ⟨Nat.le_of_ble_eq_true rfl, Nat.le_of_ble_eq_true rfl, Nat.le_of_ble_eq_true rfl, Nat.le_of_ble_eq_true rfl⟩ ?_
      refine zx_if_eq (tgt := 41) (by first | exact hz _ _ | assumption | exact zr_b _ | exact zcmp_r _ _ | (unfold zr at *; omega)) dX10_contradict_25 (by decide) (fun h25 => ?_) (fun h25 => ?_)
      · have h25 := zb_0.mp h25
        refine zx_iconst dX10_contradict_41 ?_
        refine zx_iret rfl rfl dX10_contradict_42 ?_
        rw [hQ]
        refine ⟨congrArg (fun z : Int => (Sum.inl (some (zi z)) : Option zV ⊕ String)) ?_, ?_⟩
        · first | exact absurd hw0 (by assumption) | exact (zb_t ⟨fun q => h34.1 (by omega), h34.2⟩).symm | exact (zb_f (fun q => h34 ⟨fun z => q.1 (by omega), q.2⟩)).symm
        exact ⟨(zOK_put hz (zr_b _)), QP_th hR, (zput_s _ _ _ _).trans (zb_f (fun q => q hw0))⟩
      · have h25 := zb_n.mp h25
        refine zx_aloadN dX10_contradict_28 rfl rfl ?_
        refine zx_iloadN dX10_contradict_29 rfl rfl ?_
        refine zy_top (b := ((x.toNat : Nat) : Int)) (ex) ?_
        refine zx_iloadN dX10_contradict_30 rfl rfl ?_
        refine zy_top (b := ((y.toNat : Nat) : Int)) (ey) ?_
        refine zy_cv [zi ((x.toNat : Nat) : Int), zi ((y.toNat : Nat) : Int)] (sX10_areAgainst (D := D) (c := x.toNat) (d := y.toNat) hfl (zOK_put hz (zr_b _)) (by first | assumption | omega) (by first | assumption | (refine Rel_put (by decide) ?_; assumption) | (refine Rel_put (by decide) (Rel_put (by decide) ?_); assumption) | (refine Rel_put (by decide) (Rel_put (by decide) (Rel_put (by decide) ?_)); assumption)) (by first | assumption | omega) (by first | assumption | omega)) dX10_contradict_31 (by decide) rfl cw_RX10_425 okX10_areAgainst rfl (Nat.le_of_ble_eq_true rfl) ⟨Nat.le_of_ble_eq_true rfl, Nat.le_of_ble_eq_true rfl, Nat.le_of_ble_eq_true rfl, Nat.le_of_ble_eq_true rfl⟩ ?_
        refine zx_if_eq (tgt := 41) (by first | exact hz _ _ | assumption | exact zr_b _ | exact zcmp_r _ _ | (unfold zr at *; omega)) dX10_contradict_34 (by decide) (fun h34 => ?_) (fun h34 => ?_)
        · have h34 := zb_0.mp h34
          refine zx_iconst dX10_contradict_41 ?_
          refine zx_iret rfl rfl dX10_contradict_42 ?_
          rw [hQ]
          refine ⟨congrArg (fun z : Int => (Sum.inl (some (zi z)) : Option zV ⊕ String)) ?_, ?_⟩
          · first | exact absurd hw0 (by assumption) | exact (zb_t ⟨fun q => h34.1 (by omega), h34.2⟩).symm | exact (zb_f (fun q => h34 ⟨fun z => q.1 (by omega), q.2⟩)).symm
          exact ⟨(zOK_put hz (zr_b _)), QP_th hR, (zput_s _ _ _ _).trans (zb_f (fun q => q hw0))⟩
        · have h34 := zb_n.mp h34
          refine zx_iconst dX10_contradict_37 ?_
          refine zx_goto (tgt := 42) dX10_contradict_38 (by decide) ?_
          refine zx_iret rfl rfl dX10_contradict_42 ?_
          rw [hQ]
          refine ⟨congrArg (fun z : Int => (Sum.inl (some (zi z)) : Option zV ⊕ String)) ?_, ?_⟩
          · first | exact absurd hw0 (by assumption) | exact (zb_t ⟨fun q => h34.1 (by omega), h34.2⟩).symm | exact (zb_f (fun q => h34 ⟨fun z => q.1 (by omega), q.2⟩)).symm
          exact ⟨(zOK_put hz (zr_b _)), QP_th hR, (zput_s _ _ _ _).trans (zb_f (fun q => q hw0))⟩
set_option maxRecDepth 20000 in
set_option maxHeartbeats 2000000 in
theorem sX10_contradictionsOf_t1 {l : Launch} {w : zW} (hfl : l.stackTraces = false) {σ : zS} {D : zBk} {x : Int} (hz : zOK σ) (hW : WF D) (hR : Rel D (σ.1 262)) (hx : zr x) (hw0 : ¬ (0 ≤ x ∧ x < D 12 0)) : Sp l w mX10_contradictionsOf 7 0 [zf 10 261, zi x] σ (zqv (some (zi 0)) (fun τ => zOK τ ∧ QP D σ τ ∧ τ.1 261 6 = 1)) := by
  obtain ⟨Q, hQ⟩ : ∃ Q : zQ, Q = (zqv (some (zi 0)) (fun τ => zOK τ ∧ QP D σ τ ∧ τ.1 261 6 = 1)) := ⟨_, rfl⟩
  rw [← hQ]
  refine zx_enter hfl (by decide) rfl 2 rfl ?_
  show zX l w mX10_contradictionsOf (zMQ w 7 0 Q) 0 [zf 10 261, zi x, zu, zu] [] 0 σ
  have hP : 0 ≤ D 1 0 ∧ D 1 0 ≤ 8 := hW.1.1
  have hM : 0 ≤ D 1 7 ∧ D 1 7 ≤ 8 := hW.1.2.1
  have hE : 0 ≤ D 1 10 ∧ D 1 10 ≤ 12 := hW.1.2.2.1
  have hK : 0 ≤ D 12 0 ∧ D 12 0 ≤ 40 := hW.1.2.2.2
  have r0 : σ.1 262 0 = D 1 0 := hR.1.1
  have r1 : σ.1 262 1 = D 1 7 := hR.1.2.1
  have r2 : σ.1 262 2 = D 1 10 := hR.1.2.2.1
  have r3 : σ.1 262 3 = D 12 0 := hR.1.2.2.2
  refine zx_aloadN dX10_contradictionsOf_0 rfl rfl ?_
  refine zx_aloadN dX10_contradictionsOf_1 rfl rfl ?_
  refine zx_iloadN dX10_contradictionsOf_2 rfl rfl ?_
  refine zy_cv [zi x] (sX10_isClue (D := D) hfl hz (by first | assumption | omega) (by first | assumption | (refine Rel_put (by decide) ?_; assumption) | (refine Rel_put (by decide) (Rel_put (by decide) ?_); assumption) | (refine Rel_put (by decide) (Rel_put (by decide) (Rel_put (by decide) ?_)); assumption)) (by first | exact hz _ _ | assumption | exact zr_b _ | exact zcmp_r _ _ | (unfold zr at *; omega))) dX10_contradictionsOf_3 (by decide) rfl cw_RX10_205 okX10_isClue rfl (Nat.le_of_ble_eq_true rfl) ⟨Nat.le_of_ble_eq_true rfl, Nat.le_of_ble_eq_true rfl, Nat.le_of_ble_eq_true rfl, Nat.le_of_ble_eq_true rfl⟩ ?_
  refine zy_cv [zi (zb (0 ≤ x ∧ x < D 12 0))] (sX10_passes (A := (0 ≤ x ∧ x < D 12 0)) hfl hz ) dX10_contradictionsOf_6 (by decide) rfl cw_RX10_220 okX10_passes rfl (Nat.le_of_ble_eq_true rfl) ⟨Nat.le_of_ble_eq_true rfl, Nat.le_of_ble_eq_true rfl, Nat.le_of_ble_eq_true rfl, Nat.le_of_ble_eq_true rfl⟩ ?_
  refine zx_if_ne (tgt := 14) (by first | exact hz _ _ | assumption | exact zr_b _ | exact zcmp_r _ _ | (unfold zr at *; omega)) dX10_contradictionsOf_9 (by decide) (fun h9 => ?_) (fun h9 => ?_)
  · have h9 := zb_n.mp h9
    first | exact absurd (by assumption) hw0 | (exfalso; omega)
  · have h9 := zb_0.mp h9
    refine zx_iconst dX10_contradictionsOf_12 ?_
    refine zx_iret rfl rfl dX10_contradictionsOf_13 ?_
    rw [hQ]
    refine ⟨congrArg (fun z : Int => (Sum.inl (some (zi z)) : Option zV ⊕ String)) ?_, ?_⟩
    · rfl
    exact ⟨(zOK_put hz (zr_b _)), QP_th hR, (zput_s _ _ _ _).trans (zb_t hw0)⟩
set_option maxRecDepth 20000 in
set_option maxHeartbeats 2000000 in
theorem sX10_contradictionsOf {l : Launch} {w : zW} (hfl : l.stackTraces = false) {σ : zS} {D : zBk} {x : Int} (hz : zOK σ) (hW : WF D) (hR : Rel D (σ.1 262)) (hx : zr x) (hw0 : 0 ≤ x ∧ x < D 12 0) : Sp l w mX10_contradictionsOf 7 0 [zf 10 261, zi x] σ (zqv (some (zi (zs (fun c => zb (¬ (c : Int) = x ∧ ¬ tog D x.toNat c)) (D 12 0).toNat))) (fun τ => zOK τ ∧ QP D σ τ ∧ τ.1 261 6 = 0)) := by
  obtain ⟨Q, hQ⟩ : ∃ Q : zQ, Q = (zqv (some (zi (zs (fun c => zb (¬ (c : Int) = x ∧ ¬ tog D x.toNat c)) (D 12 0).toNat))) (fun τ => zOK τ ∧ QP D σ τ ∧ τ.1 261 6 = 0)) := ⟨_, rfl⟩
  rw [← hQ]
  refine zx_enter hfl (by decide) rfl 2 rfl ?_
  show zX l w mX10_contradictionsOf (zMQ w 7 0 Q) 0 [zf 10 261, zi x, zu, zu] [] 0 σ
  have hP : 0 ≤ D 1 0 ∧ D 1 0 ≤ 8 := hW.1.1
  have hM : 0 ≤ D 1 7 ∧ D 1 7 ≤ 8 := hW.1.2.1
  have hE : 0 ≤ D 1 10 ∧ D 1 10 ≤ 12 := hW.1.2.2.1
  have hK : 0 ≤ D 12 0 ∧ D 12 0 ≤ 40 := hW.1.2.2.2
  have r0 : σ.1 262 0 = D 1 0 := hR.1.1
  have r1 : σ.1 262 1 = D 1 7 := hR.1.2.1
  have r2 : σ.1 262 2 = D 1 10 := hR.1.2.2.1
  have r3 : σ.1 262 3 = D 12 0 := hR.1.2.2.2
  have ex : x = ((x.toNat : Nat) : Int) := by omega
  refine zx_aloadN dX10_contradictionsOf_0 rfl rfl ?_
  refine zx_aloadN dX10_contradictionsOf_1 rfl rfl ?_
  refine zx_iloadN dX10_contradictionsOf_2 rfl rfl ?_
  refine zy_cv [zi x] (sX10_isClue (D := D) hfl hz (by first | assumption | omega) (by first | assumption | (refine Rel_put (by decide) ?_; assumption) | (refine Rel_put (by decide) (Rel_put (by decide) ?_); assumption) | (refine Rel_put (by decide) (Rel_put (by decide) (Rel_put (by decide) ?_)); assumption)) (by first | exact hz _ _ | assumption | exact zr_b _ | exact zcmp_r _ _ | (unfold zr at *; omega))) dX10_contradictionsOf_3 (by decide) rfl cw_RX10_205 okX10_isClue rfl (Nat.le_of_ble_eq_true rfl) ⟨Nat.le_of_ble_eq_true rfl, Nat.le_of_ble_eq_true rfl, Nat.le_of_ble_eq_true rfl, Nat.le_of_ble_eq_true rfl⟩ ?_
  refine zy_cv [zi (zb (0 ≤ x ∧ x < D 12 0))] (sX10_passes (A := (0 ≤ x ∧ x < D 12 0)) hfl hz ) dX10_contradictionsOf_6 (by decide) rfl cw_RX10_220 okX10_passes rfl (Nat.le_of_ble_eq_true rfl) ⟨Nat.le_of_ble_eq_true rfl, Nat.le_of_ble_eq_true rfl, Nat.le_of_ble_eq_true rfl, Nat.le_of_ble_eq_true rfl⟩ ?_
  refine zx_if_ne (tgt := 14) (by first | exact hz _ _ | assumption | exact zr_b _ | exact zcmp_r _ _ | (unfold zr at *; omega)) dX10_contradictionsOf_9 (by decide) (fun h9 => ?_) (fun h9 => ?_)
  · have h9 := zb_n.mp h9
    refine zx_iconst dX10_contradictionsOf_14 ?_
    refine zy_istoreN [zf 10 261, zi x, zi 0, zu] dX10_contradictionsOf_15 rfl (Nat.le_of_ble_eq_true rfl) (Nat.le_of_ble_eq_true rfl) rfl rfl ?_
    refine zx_iconst dX10_contradictionsOf_16 ?_
    refine zy_istoreN [zf 10 261, zi x, zi 0, zi 0] dX10_contradictionsOf_17 rfl (Nat.le_of_ble_eq_true rfl) (Nat.le_of_ble_eq_true rfl) rfl rfl ?_
    have L18 : ∀ (N : Nat) (c : Nat) (acc : Int), ((c : Int) ≤ D 12 0) → (acc = zs (fun c => zb (¬ (c : Int) = x ∧ ¬ tog D x.toNat c)) c) → (41 - c) < N → zX l w mX10_contradictionsOf (zMQ w 7 0 Q) 18 [zf 10 261, zi x, zi acc, zi ((c : Nat) : Int)] [] 0 (zput σ 261 6 (zb (¬ (0 ≤ x ∧ x < D 12 0)))) := by
      intro N
      induction N with
      | zero => intro c acc _ _ _; exact absurd (by assumption) (Nat.not_lt_zero _)
      | succ N ih18 =>
        intro c acc hc_ hacc hN
        have c3 : (zput σ 261 6 (zb (¬ (0 ≤ x ∧ x < D 12 0)))).1 262 3 = σ.1 262 3 := zput_k _ _ _ _ _ (by omega)
        refine zx_iloadN dX10_contradictionsOf_18 rfl rfl ?_
        refine zx_aloadN dX10_contradictionsOf_19 rfl rfl ?_
        refine zy_getR (q' := 262) fl_RX10_7 rfl dX10_contradictionsOf_20 rfl ?_
        refine zx_iconst dX10_contradictionsOf_23 ?_
        refine zy_iald (v := σ.1 262 3) rfl (by decide) (by decide) dX10_contradictionsOf_24 (by omega) (by omega) (zput_k _ _ _ _ _ (by omega)) ?_
        refine zx_icmp_ge (tgt := 46) (by first | exact hz _ _ | assumption | exact zr_b _ | exact zcmp_r _ _ | (unfold zr at *; omega)) (by first | exact hz _ _ | assumption | exact zr_b _ | exact zcmp_r _ _ | (unfold zr at *; omega)) dX10_contradictionsOf_25 (by decide) (fun h25 => ?_) (fun h25 => ?_)
        · refine zx_iloadN dX10_contradictionsOf_46 rfl rfl ?_
          refine zx_iret rfl rfl dX10_contradictionsOf_47 ?_
          rw [hQ]
          refine ⟨congrArg (fun z : Int => (Sum.inl (some (zi z)) : Option zV ⊕ String)) ?_, ?_⟩
          · rw [hacc]; congr 1; omega
          exact ⟨(zOK_put hz (zr_b _)), QP_th hR, (zput_s _ _ _ _).trans (zb_f (fun q => q hw0))⟩
        · refine zx_iloadN dX10_contradictionsOf_28 rfl rfl ?_
          refine zx_aloadN dX10_contradictionsOf_29 rfl rfl ?_
          refine zx_iloadN dX10_contradictionsOf_30 rfl rfl ?_
          refine zy_top (b := ((x.toNat : Nat) : Int)) (ex) ?_
          refine zx_iloadN dX10_contradictionsOf_31 rfl rfl ?_
          refine zy_cv [zi ((x.toNat : Nat) : Int), zi ((c : Nat) : Int)] (sX10_areAgainst (D := D) (c := x.toNat) (d := c) hfl (zOK_put hz (zr_b _)) (by first | assumption | omega) (by first | assumption | (refine Rel_put (by decide) ?_; assumption) | (refine Rel_put (by decide) (Rel_put (by decide) ?_); assumption) | (refine Rel_put (by decide) (Rel_put (by decide) (Rel_put (by decide) ?_)); assumption)) (by first | assumption | omega) (by first | assumption | omega)) dX10_contradictionsOf_32 (by decide) rfl cw_RX10_425 okX10_areAgainst rfl (Nat.le_of_ble_eq_true rfl) ⟨Nat.le_of_ble_eq_true rfl, Nat.le_of_ble_eq_true rfl, Nat.le_of_ble_eq_true rfl, Nat.le_of_ble_eq_true rfl⟩ ?_
          refine zy_cs [zi (zb (¬ x.toNat = c ∧ ¬ tog D x.toNat c))] (sX10_truth (A := (¬ x.toNat = c ∧ ¬ tog D x.toNat c)) hfl (zOK_put hz (zr_b _)) ) dX10_contradictionsOf_35 cw_RX10_94 okX10_truth rfl (Nat.le_of_ble_eq_true rfl) ⟨Nat.le_of_ble_eq_true rfl, Nat.le_of_ble_eq_true rfl, Nat.le_of_ble_eq_true rfl, Nat.le_of_ble_eq_true rfl⟩ ?_
          refine zx_iadd dX10_contradictionsOf_38 ?_
          refine zy_istoreN [zf 10 261, zi x, zi (acc + (zb (¬ x.toNat = c ∧ ¬ tog D x.toNat c))), zi ((c : Nat) : Int)] dX10_contradictionsOf_39 rfl (Nat.le_of_ble_eq_true rfl) (Nat.le_of_ble_eq_true rfl) rfl rfl ?_
          refine zy_iinc (b := ((c + 1 : Nat) : Int)) [zf 10 261, zi x, zi (acc + (zb (¬ x.toNat = c ∧ ¬ tog D x.toNat c))), zi ((c + 1 : Nat) : Int)] dX10_contradictionsOf_40 rfl (by omega) (Nat.le_of_ble_eq_true rfl) rfl rfl ?_
          refine zx_goto (tgt := 18) dX10_contradictionsOf_43 (by decide) ?_
          exact ih18 (c + 1) (acc + (zb (¬ x.toNat = c ∧ ¬ tog D x.toNat c))) (by first | assumption | omega) (by subst hacc; rw [zs_s]; congr 1; exact zb_c ⟨fun q => ⟨by omega, q.2⟩, fun q => ⟨by omega, q.2⟩⟩) (by omega)
    exact L18 _ 0 0 (by first | assumption | omega) rfl (Nat.lt_succ_self _)
  · have h9 := zb_0.mp h9
    first | exact absurd hw0 (by assumption) | (exfalso; omega)
set_option maxRecDepth 20000 in
set_option maxHeartbeats 2000000 in
theorem sX10_impossibleClues {l : Launch} {w : zW} (hfl : l.stackTraces = false) {σ : zS} {D : zBk}  (hz : zOK σ) (hW : WF D) (hR : Rel D (σ.1 262)) : Sp l w mX10_impossibleClues 6 0 [zf 10 261] σ (zqv (some (zi (zs (fun c => zb (¬ tog D c c)) (D 12 0).toNat))) (fun τ => zOK τ ∧ QP D σ τ ∧ τ.1 261 6 = 0)) := by
  obtain ⟨Q, hQ⟩ : ∃ Q : zQ, Q = (zqv (some (zi (zs (fun c => zb (¬ tog D c c)) (D 12 0).toNat))) (fun τ => zOK τ ∧ QP D σ τ ∧ τ.1 261 6 = 0)) := ⟨_, rfl⟩
  rw [← hQ]
  refine zx_enter hfl (by decide) rfl 2 rfl ?_
  show zX l w mX10_impossibleClues (zMQ w 6 0 Q) 0 [zf 10 261, zu, zu] [] 0 σ
  have hP : 0 ≤ D 1 0 ∧ D 1 0 ≤ 8 := hW.1.1
  have hM : 0 ≤ D 1 7 ∧ D 1 7 ≤ 8 := hW.1.2.1
  have hE : 0 ≤ D 1 10 ∧ D 1 10 ≤ 12 := hW.1.2.2.1
  have hK : 0 ≤ D 12 0 ∧ D 12 0 ≤ 40 := hW.1.2.2.2
  have r0 : σ.1 262 0 = D 1 0 := hR.1.1
  have r1 : σ.1 262 1 = D 1 7 := hR.1.2.1
  have r2 : σ.1 262 2 = D 1 10 := hR.1.2.2.1
  have r3 : σ.1 262 3 = D 12 0 := hR.1.2.2.2
  refine zx_aloadN dX10_impossibleClues_0 rfl rfl ?_
  refine zx_iconst dX10_impossibleClues_1 ?_
  refine zx_putI fl_RX10_67 rfl (Or.inl fp_10_6) dX10_impossibleClues_2 ?_
  refine zx_iconst dX10_impossibleClues_5 ?_
  refine zy_istoreN [zf 10 261, zi 0, zu] dX10_impossibleClues_6 rfl (Nat.le_of_ble_eq_true rfl) (Nat.le_of_ble_eq_true rfl) rfl rfl ?_
  refine zx_iconst dX10_impossibleClues_7 ?_
  refine zy_istoreN [zf 10 261, zi 0, zi 0] dX10_impossibleClues_8 rfl (Nat.le_of_ble_eq_true rfl) (Nat.le_of_ble_eq_true rfl) rfl rfl ?_
  have L9 : ∀ (N : Nat) (c : Nat) (acc : Int), ((c : Int) ≤ D 12 0) → (acc = zs (fun c => zb (¬ tog D c c)) c) → (41 - c) < N → zX l w mX10_impossibleClues (zMQ w 6 0 Q) 9 [zf 10 261, zi acc, zi ((c : Nat) : Int)] [] 0 (zput σ 261 6 0) := by
    intro N
    induction N with
    | zero => intro c acc _ _ _; exact absurd (by assumption) (Nat.not_lt_zero _)
    | succ N ih9 =>
      intro c acc hc_ hacc hN
      have c3 : (zput σ 261 6 0).1 262 3 = σ.1 262 3 := zput_k _ _ _ _ _ (by omega)
      refine zx_iloadN dX10_impossibleClues_9 rfl rfl ?_
      refine zx_aloadN dX10_impossibleClues_10 rfl rfl ?_
      refine zy_getR (q' := 262) fl_RX10_7 rfl dX10_impossibleClues_11 rfl ?_
      refine zx_iconst dX10_impossibleClues_14 ?_
      refine zy_iald (v := σ.1 262 3) rfl (by decide) (by decide) dX10_impossibleClues_15 (by omega) (by omega) (zput_k _ _ _ _ _ (by omega)) ?_
      refine zx_icmp_ge (tgt := 45) (by first | exact hz _ _ | assumption | exact zr_b _ | exact zcmp_r _ _ | (unfold zr at *; omega)) (by first | exact hz _ _ | assumption | exact zr_b _ | exact zcmp_r _ _ | (unfold zr at *; omega)) dX10_impossibleClues_16 (by decide) (fun h16 => ?_) (fun h16 => ?_)
      · refine zx_iloadN dX10_impossibleClues_45 rfl rfl ?_
        refine zx_iret rfl rfl dX10_impossibleClues_46 ?_
        rw [hQ]
        refine ⟨congrArg (fun z : Int => (Sum.inl (some (zi z)) : Option zV ⊕ String)) ?_, ?_⟩
        · rw [hacc]; congr 1; omega
        exact ⟨(zOK_put hz (by unfold zr; omega)), QP_th hR, zput_s _ _ _ _⟩
      · refine zx_iloadN dX10_impossibleClues_19 rfl rfl ?_
        refine zx_aloadN dX10_impossibleClues_20 rfl rfl ?_
        refine zx_iloadN dX10_impossibleClues_21 rfl rfl ?_
        refine zx_iloadN dX10_impossibleClues_22 rfl rfl ?_
        refine zy_cv [zi ((c : Nat) : Int), zi ((c : Nat) : Int)] (sX10_areTogether (D := D) (c := c) (d := c) hfl (zOK_put hz (by unfold zr; omega)) (by first | assumption | omega) (by first | assumption | (refine Rel_put (by decide) ?_; assumption) | (refine Rel_put (by decide) (Rel_put (by decide) ?_); assumption) | (refine Rel_put (by decide) (Rel_put (by decide) (Rel_put (by decide) ?_)); assumption)) (by first | assumption | omega) (by first | assumption | omega)) dX10_impossibleClues_23 (by decide) rfl cw_RX10_192 okX10_areTogether rfl (Nat.le_of_ble_eq_true rfl) ⟨Nat.le_of_ble_eq_true rfl, Nat.le_of_ble_eq_true rfl, Nat.le_of_ble_eq_true rfl, Nat.le_of_ble_eq_true rfl⟩ ?_
        refine zx_if_ne (tgt := 33) (by first | exact hz _ _ | assumption | exact zr_b _ | exact zcmp_r _ _ | (unfold zr at *; omega)) dX10_impossibleClues_26 (by decide) (fun h26 => ?_) (fun h26 => ?_)
        · have h26 := zb_n.mp h26
          refine zx_iconst dX10_impossibleClues_33 ?_
          refine zy_top (b := zb (¬ tog D c c)) (by first | exact (zb_t (by assumption)).symm | exact (zb_f (fun q => q (by assumption))).symm) ?_
          refine zy_cs [zi (zb (¬ tog D c c))] (sX10_truth (A := (¬ tog D c c)) hfl (zOK_put hz (by unfold zr; omega)) ) dX10_impossibleClues_34 cw_RX10_94 okX10_truth rfl (Nat.le_of_ble_eq_true rfl) ⟨Nat.le_of_ble_eq_true rfl, Nat.le_of_ble_eq_true rfl, Nat.le_of_ble_eq_true rfl, Nat.le_of_ble_eq_true rfl⟩ ?_
          refine zx_iadd dX10_impossibleClues_37 ?_
          refine zy_istoreN [zf 10 261, zi (acc + (zb (¬ tog D c c))), zi ((c : Nat) : Int)] dX10_impossibleClues_38 rfl (Nat.le_of_ble_eq_true rfl) (Nat.le_of_ble_eq_true rfl) rfl rfl ?_
          refine zy_iinc (b := ((c + 1 : Nat) : Int)) [zf 10 261, zi (acc + (zb (¬ tog D c c))), zi ((c + 1 : Nat) : Int)] dX10_impossibleClues_39 rfl (by omega) (Nat.le_of_ble_eq_true rfl) rfl rfl ?_
          refine zx_goto (tgt := 9) dX10_impossibleClues_42 (by decide) ?_
          exact ih9 (c + 1) (acc + (zb (¬ tog D c c))) (by first | assumption | omega) (by subst hacc; rw [zs_s]) (by omega)
        · have h26 := zb_0.mp h26
          refine zx_iconst dX10_impossibleClues_29 ?_
          refine zx_goto (tgt := 34) dX10_impossibleClues_30 (by decide) ?_
          refine zy_top (b := zb (¬ tog D c c)) (by first | exact (zb_t (by assumption)).symm | exact (zb_f (fun q => q (by assumption))).symm) ?_
          refine zy_cs [zi (zb (¬ tog D c c))] (sX10_truth (A := (¬ tog D c c)) hfl (zOK_put hz (by unfold zr; omega)) ) dX10_impossibleClues_34 cw_RX10_94 okX10_truth rfl (Nat.le_of_ble_eq_true rfl) ⟨Nat.le_of_ble_eq_true rfl, Nat.le_of_ble_eq_true rfl, Nat.le_of_ble_eq_true rfl, Nat.le_of_ble_eq_true rfl⟩ ?_
          refine zx_iadd dX10_impossibleClues_37 ?_
          refine zy_istoreN [zf 10 261, zi (acc + (zb (¬ tog D c c))), zi ((c : Nat) : Int)] dX10_impossibleClues_38 rfl (Nat.le_of_ble_eq_true rfl) (Nat.le_of_ble_eq_true rfl) rfl rfl ?_
          refine zy_iinc (b := ((c + 1 : Nat) : Int)) [zf 10 261, zi (acc + (zb (¬ tog D c c))), zi ((c + 1 : Nat) : Int)] dX10_impossibleClues_39 rfl (by omega) (Nat.le_of_ble_eq_true rfl) rfl rfl ?_
          refine zx_goto (tgt := 9) dX10_impossibleClues_42 (by decide) ?_
          exact ih9 (c + 1) (acc + (zb (¬ tog D c c))) (by first | assumption | omega) (by subst hacc; rw [zs_s]) (by omega)
  exact L9 _ 0 0 (by first | assumption | omega) rfl (Nat.lt_succ_self _)

