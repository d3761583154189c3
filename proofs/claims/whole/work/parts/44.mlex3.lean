abbrev mX10_isNamed : zM := (yX10_isNamed, cX10_isNamed, 4, (some .boolean), [])
theorem okX10_isNamed : zMok mX10_isNamed 1 := ⟨by decide, by decide, by decide +kernel⟩
theorem dX10_isNamed_0 : decode cX10_isNamed 0 = .ok (.iconst 4, 1) := by decide +kernel
theorem dX10_isNamed_1 : decode cX10_isNamed 1 = .ok (.bipush 12, 2) := by decide +kernel
theorem dX10_isNamed_3 : decode cX10_isNamed 3 = .ok (.iload_n 1, 1) := by decide +kernel
theorem dX10_isNamed_4 : decode cX10_isNamed 4 = .ok (.imul, 1) := by decide +kernel
theorem dX10_isNamed_5 : decode cX10_isNamed 5 = .ok (.iadd, 1) := by decide +kernel
theorem dX10_isNamed_6 : decode cX10_isNamed 6 = .ok (.istore_n 2, 1) := by decide +kernel
theorem dX10_isNamed_7 : decode cX10_isNamed 7 = .ok (.aload_n 0, 1) := by decide +kernel
theorem dX10_isNamed_8 : decode cX10_isNamed 8 = .ok (.getfield 7, 3) := by decide +kernel
theorem dX10_isNamed_11 : decode cX10_isNamed 11 = .ok (.iload_n 2, 1) := by decide +kernel
theorem dX10_isNamed_12 : decode cX10_isNamed 12 = .ok (.iaload, 1) := by decide +kernel
theorem dX10_isNamed_13 : decode cX10_isNamed 13 = .ok (.aload_n 0, 1) := by decide +kernel
theorem dX10_isNamed_14 : decode cX10_isNamed 14 = .ok (.getfield 236, 3) := by decide +kernel
theorem dX10_isNamed_17 : decode cX10_isNamed 17 = .ok (.if_icmp .eq 5, 3) := by decide +kernel
theorem dX10_isNamed_22 : decode cX10_isNamed 22 = .ok (.iconst 0, 1) := by decide +kernel
theorem dX10_isNamed_23 : decode cX10_isNamed 23 = .ok (.istore_n 3, 1) := by decide +kernel
theorem dX10_isNamed_24 : decode cX10_isNamed 24 = .ok (.iload_n 3, 1) := by decide +kernel
theorem dX10_isNamed_25 : decode cX10_isNamed 25 = .ok (.aload_n 0, 1) := by decide +kernel
theorem dX10_isNamed_26 : decode cX10_isNamed 26 = .ok (.getfield 236, 3) := by decide +kernel
theorem dX10_isNamed_29 : decode cX10_isNamed 29 = .ok (.if_icmp .ge 34, 3) := by decide +kernel
theorem dX10_isNamed_63 : decode cX10_isNamed 63 = .ok (.iconst 1, 1) := by decide +kernel
theorem dX10_isNamed_64 : decode cX10_isNamed 64 = .ok (.ireturn, 1) := by decide +kernel
theorem dX10_isNamed_32 : decode cX10_isNamed 32 = .ok (.aload_n 0, 1) := by decide +kernel
theorem dX10_isNamed_33 : decode cX10_isNamed 33 = .ok (.getfield 7, 3) := by decide +kernel
theorem dX10_isNamed_36 : decode cX10_isNamed 36 = .ok (.iload_n 2, 1) := by decide +kernel
theorem dX10_isNamed_37 : decode cX10_isNamed 37 = .ok (.iconst 1, 1) := by decide +kernel
theorem dX10_isNamed_38 : decode cX10_isNamed 38 = .ok (.iadd, 1) := by decide +kernel
theorem dX10_isNamed_39 : decode cX10_isNamed 39 = .ok (.iload_n 3, 1) := by decide +kernel
theorem dX10_isNamed_40 : decode cX10_isNamed 40 = .ok (.iadd, 1) := by decide +kernel
theorem dX10_isNamed_41 : decode cX10_isNamed 41 = .ok (.iaload, 1) := by decide +kernel
theorem dX10_isNamed_42 : decode cX10_isNamed 42 = .ok (.aload_n 0, 1) := by decide +kernel
theorem dX10_isNamed_43 : decode cX10_isNamed 43 = .ok (.aload_n 0, 1) := by decide +kernel
theorem dX10_isNamed_44 : decode cX10_isNamed 44 = .ok (.getfield 233, 3) := by decide +kernel
theorem dX10_isNamed_47 : decode cX10_isNamed 47 = .ok (.iload_n 3, 1) := by decide +kernel
theorem dX10_isNamed_48 : decode cX10_isNamed 48 = .ok (.iadd, 1) := by decide +kernel
theorem dX10_isNamed_49 : decode cX10_isNamed 49 = .ok (.invokevirtual 230, 3) := by decide +kernel
theorem dX10_isNamed_52 : decode cX10_isNamed 52 = .ok (.if_icmp .eq 5, 3) := by decide +kernel
theorem dX10_isNamed_57 : decode cX10_isNamed 57 = .ok (.iinc 3 1, 3) := by decide +kernel
theorem dX10_isNamed_60 : decode cX10_isNamed 60 = .ok (.goto (-36), 3) := by decide +kernel
theorem dX10_isNamed_55 : decode cX10_isNamed 55 = .ok (.iconst 0, 1) := by decide +kernel
theorem dX10_isNamed_56 : decode cX10_isNamed 56 = .ok (.ireturn, 1) := by decide +kernel
theorem dX10_isNamed_20 : decode cX10_isNamed 20 = .ok (.iconst 0, 1) := by decide +kernel
theorem dX10_isNamed_21 : decode cX10_isNamed 21 = .ok (.ireturn, 1) := by decide +kernel
abbrev mX10_printerHere : zM := (yX10_printerHere, cX10_printerHere, 2, (some .int), [])
theorem okX10_printerHere : zMok mX10_printerHere 0 := ⟨by decide, by decide, by decide +kernel⟩
theorem dX10_printerHere_0 : decode cX10_printerHere 0 = .ok (.iconst 0, 1) := by decide +kernel
theorem dX10_printerHere_1 : decode cX10_printerHere 1 = .ok (.istore_n 1, 1) := by decide +kernel
theorem dX10_printerHere_2 : decode cX10_printerHere 2 = .ok (.iload_n 1, 1) := by decide +kernel
theorem dX10_printerHere_3 : decode cX10_printerHere 3 = .ok (.aload_n 0, 1) := by decide +kernel
theorem dX10_printerHere_4 : decode cX10_printerHere 4 = .ok (.getfield 7, 3) := by decide +kernel
theorem dX10_printerHere_7 : decode cX10_printerHere 7 = .ok (.iconst 0, 1) := by decide +kernel
theorem dX10_printerHere_8 : decode cX10_printerHere 8 = .ok (.iaload, 1) := by decide +kernel
theorem dX10_printerHere_9 : decode cX10_printerHere 9 = .ok (.if_icmp .ge 19, 3) := by decide +kernel
theorem dX10_printerHere_28 : decode cX10_printerHere 28 = .ok (.iconst (-1), 1) := by decide +kernel
theorem dX10_printerHere_29 : decode cX10_printerHere 29 = .ok (.ireturn, 1) := by decide +kernel
theorem dX10_printerHere_12 : decode cX10_printerHere 12 = .ok (.aload_n 0, 1) := by decide +kernel
theorem dX10_printerHere_13 : decode cX10_printerHere 13 = .ok (.iload_n 1, 1) := by decide +kernel
theorem dX10_printerHere_14 : decode cX10_printerHere 14 = .ok (.invokevirtual 262, 3) := by decide +kernel
theorem cw_RX10_262 : zCwV RX10 262 mX10_isNamed := zall [1572, 1574, 34, 128, 1575] (by decide +kernel) (by decide +kernel)
theorem dX10_printerHere_17 : decode cX10_printerHere 17 = .ok (.ifCond .eq 5, 3) := by decide +kernel
theorem dX10_printerHere_22 : decode cX10_printerHere 22 = .ok (.iinc 1 1, 3) := by decide +kernel
theorem dX10_printerHere_25 : decode cX10_printerHere 25 = .ok (.goto (-23), 3) := by decide +kernel
theorem dX10_printerHere_20 : decode cX10_printerHere 20 = .ok (.iload_n 1, 1) := by decide +kernel
theorem dX10_printerHere_21 : decode cX10_printerHere 21 = .ok (.ireturn, 1) := by decide +kernel
abbrev mX10_mustBe : zM := (yX10_mustBe, cX10_mustBe, 2, (some .int), [])
theorem okX10_mustBe : zMok mX10_mustBe 0 := ⟨by decide, by decide, by decide +kernel⟩
theorem dX10_mustBe_0 : decode cX10_mustBe 0 = .ok (.aload_n 0, 1) := by decide +kernel
theorem dX10_mustBe_1 : decode cX10_mustBe 1 = .ok (.invokevirtual 265, 3) := by decide +kernel
theorem cw_RX10_265 : zCwV RX10 265 mX10_isName := zall [1563, 1565, 32, 128, 1566] (by decide +kernel) (by decide +kernel)
theorem dX10_mustBe_4 : decode cX10_mustBe 4 = .ok (.ifCond .ne 5, 3) := by decide +kernel
theorem dX10_mustBe_9 : decode cX10_mustBe 9 = .ok (.aload_n 0, 1) := by decide +kernel
theorem dX10_mustBe_10 : decode cX10_mustBe 10 = .ok (.invokevirtual 269, 3) := by decide +kernel
theorem cw_RX10_269 : zCwV RX10 269 mX10_printerHere := zall [1568, 1570, 33, 128, 1571] (by decide +kernel) (by decide +kernel)
theorem dX10_mustBe_13 : decode cX10_mustBe 13 = .ok (.istore_n 1, 1) := by decide +kernel
theorem dX10_mustBe_14 : decode cX10_mustBe 14 = .ok (.aload_n 0, 1) := by decide +kernel
theorem dX10_mustBe_15 : decode cX10_mustBe 15 = .ok (.iload_n 1, 1) := by decide +kernel
theorem dX10_mustBe_16 : decode cX10_mustBe 16 = .ok (.iconst (-1), 1) := by decide +kernel
theorem dX10_mustBe_17 : decode cX10_mustBe 17 = .ok (.if_icmp .eq 7, 3) := by decide +kernel
theorem dX10_mustBe_24 : decode cX10_mustBe 24 = .ok (.iconst 0, 1) := by decide +kernel
theorem dX10_mustBe_25 : decode cX10_mustBe 25 = .ok (.iconst 3, 1) := by decide +kernel
theorem dX10_mustBe_26 : decode cX10_mustBe 26 = .ok (.invokevirtual 252, 3) := by decide +kernel
theorem dX10_mustBe_29 : decode cX10_mustBe 29 = .ok (.aload_n 0, 1) := by decide +kernel
theorem dX10_mustBe_30 : decode cX10_mustBe 30 = .ok (.invokevirtual 272, 3) := by decide +kernel
theorem cw_RX10_272 : zCwV RX10 272 mX10_goesPast := zall [1555, 1557, 30, 128, 1558] (by decide +kernel) (by decide +kernel)
theorem dX10_mustBe_33 : decode cX10_mustBe 33 = .ok (.aload_n 0, 1) := by decide +kernel
theorem dX10_mustBe_34 : decode cX10_mustBe 34 = .ok (.getfield 243, 3) := by decide +kernel
theorem dX10_mustBe_37 : decode cX10_mustBe 37 = .ok (.ifCond .ne 7, 3) := by decide +kernel
theorem dX10_mustBe_44 : decode cX10_mustBe 44 = .ok (.iconst 0, 1) := by decide +kernel
theorem dX10_mustBe_45 : decode cX10_mustBe 45 = .ok (.ireturn, 1) := by decide +kernel
theorem dX10_mustBe_40 : decode cX10_mustBe 40 = .ok (.iload_n 1, 1) := by decide +kernel
theorem dX10_mustBe_41 : decode cX10_mustBe 41 = .ok (.goto 4, 3) := by decide +kernel
theorem dX10_mustBe_20 : decode cX10_mustBe 20 = .ok (.iconst 1, 1) := by decide +kernel
theorem dX10_mustBe_21 : decode cX10_mustBe 21 = .ok (.goto 4, 3) := by decide +kernel
theorem dX10_mustBe_7 : decode cX10_mustBe 7 = .ok (.iconst 0, 1) := by decide +kernel
theorem dX10_mustBe_8 : decode cX10_mustBe 8 = .ok (.ireturn, 1) := by decide +kernel
abbrev mX10_starts : zM := (yX10_starts, cX10_starts, 4, (some .boolean), [])
theorem okX10_starts : zMok mX10_starts 3 := ⟨by decide, by decide, by decide +kernel⟩
theorem dX10_starts_0 : decode cX10_starts 0 = .ok (.aload_n 0, 1) := by decide +kernel
theorem dX10_starts_1 : decode cX10_starts 1 = .ok (.aload_n 0, 1) := by decide +kernel
theorem dX10_starts_2 : decode cX10_starts 2 = .ok (.aload_n 1, 1) := by decide +kernel
theorem dX10_starts_3 : decode cX10_starts 3 = .ok (.invokevirtual 278, 3) := by decide +kernel
theorem cw_RX10_278 : zCwV RX10 278 mX10_sees := zall [1526, 1528, 24, 128, 1529] (by decide +kernel) (by decide +kernel)
theorem dX10_starts_6 : decode cX10_starts 6 = .ok (.iconst 1, 1) := by decide +kernel
theorem dX10_starts_7 : decode cX10_starts 7 = .ok (.invokevirtual 252, 3) := by decide +kernel
theorem dX10_starts_10 : decode cX10_starts 10 = .ok (.aload_n 0, 1) := by decide +kernel
theorem dX10_starts_11 : decode cX10_starts 11 = .ok (.iload_n 2, 1) := by decide +kernel
theorem dX10_starts_12 : decode cX10_starts 12 = .ok (.iload_n 3, 1) := by decide +kernel
theorem dX10_starts_13 : decode cX10_starts 13 = .ok (.if_icmp .ge 7, 3) := by decide +kernel
theorem dX10_starts_20 : decode cX10_starts 20 = .ok (.iconst 0, 1) := by decide +kernel
theorem dX10_starts_21 : decode cX10_starts 21 = .ok (.iconst 4, 1) := by decide +kernel
theorem dX10_starts_22 : decode cX10_starts 22 = .ok (.invokevirtual 252, 3) := by decide +kernel
theorem dX10_starts_25 : decode cX10_starts 25 = .ok (.aload_n 0, 1) := by decide +kernel
theorem dX10_starts_26 : decode cX10_starts 26 = .ok (.invokevirtual 272, 3) := by decide +kernel
theorem dX10_starts_29 : decode cX10_starts 29 = .ok (.aload_n 0, 1) := by decide +kernel
theorem dX10_starts_30 : decode cX10_starts 30 = .ok (.getfield 243, 3) := by decide +kernel
theorem dX10_starts_33 : decode cX10_starts 33 = .ok (.ifCond .ne 7, 3) := by decide +kernel
theorem dX10_starts_40 : decode cX10_starts 40 = .ok (.iconst 0, 1) := by decide +kernel
theorem dX10_starts_41 : decode cX10_starts 41 = .ok (.ireturn, 1) := by decide +kernel
theorem dX10_starts_36 : decode cX10_starts 36 = .ok (.iconst 1, 1) := by decide +kernel
theorem dX10_starts_37 : decode cX10_starts 37 = .ok (.goto 4, 3) := by decide +kernel
theorem dX10_starts_16 : decode cX10_starts 16 = .ok (.iconst 1, 1) := by decide +kernel
theorem dX10_starts_17 : decode cX10_starts 17 = .ok (.goto 4, 3) := by decide +kernel
abbrev mX10_kindHere : zM := (yX10_kindHere, cX10_kindHere, 2, (some .int), [])
theorem okX10_kindHere : zMok mX10_kindHere 0 := ⟨by decide, by decide, by decide +kernel⟩
theorem dX10_kindHere_0 : decode cX10_kindHere 0 = .ok (.aload_n 0, 1) := by decide +kernel
theorem dX10_kindHere_1 : decode cX10_kindHere 1 = .ok (.getfield 243, 3) := by decide +kernel
theorem dX10_kindHere_4 : decode cX10_kindHere 4 = .ok (.ifCond .eq 5, 3) := by decide +kernel
theorem dX10_kindHere_9 : decode cX10_kindHere 9 = .ok (.aload_n 0, 1) := by decide +kernel
theorem dX10_kindHere_10 : decode cX10_kindHere 10 = .ok (.ldc_w 307, 3) := by decide +kernel
theorem dX10_kindHere_13 : decode cX10_kindHere 13 = .ok (.invokevirtual 278, 3) := by decide +kernel
theorem dX10_kindHere_16 : decode cX10_kindHere 16 = .ok (.ifCond .eq 7, 3) := by decide +kernel
theorem dX10_kindHere_23 : decode cX10_kindHere 23 = .ok (.aload_n 0, 1) := by decide +kernel
theorem dX10_kindHere_24 : decode cX10_kindHere 24 = .ok (.ldc_w 309, 3) := by decide +kernel
theorem dX10_kindHere_27 : decode cX10_kindHere 27 = .ok (.invokevirtual 278, 3) := by decide +kernel
theorem dX10_kindHere_30 : decode cX10_kindHere 30 = .ok (.ifCond .eq 7, 3) := by decide +kernel
theorem dX10_kindHere_37 : decode cX10_kindHere 37 = .ok (.aload_n 0, 1) := by decide +kernel
theorem dX10_kindHere_38 : decode cX10_kindHere 38 = .ok (.ldc_w 303, 3) := by decide +kernel
theorem dX10_kindHere_41 : decode cX10_kindHere 41 = .ok (.invokevirtual 278, 3) := by decide +kernel
theorem dX10_kindHere_44 : decode cX10_kindHere 44 = .ok (.ifCond .eq 7, 3) := by decide +kernel
theorem dX10_kindHere_51 : decode cX10_kindHere 51 = .ok (.aload_n 0, 1) := by decide +kernel
theorem dX10_kindHere_52 : decode cX10_kindHere 52 = .ok (.ldc_w 311, 3) := by decide +kernel
theorem dX10_kindHere_55 : decode cX10_kindHere 55 = .ok (.invokevirtual 278, 3) := by decide +kernel
theorem dX10_kindHere_58 : decode cX10_kindHere 58 = .ok (.ifCond .eq 7, 3) := by decide +kernel
theorem dX10_kindHere_65 : decode cX10_kindHere 65 = .ok (.aload_n 0, 1) := by decide +kernel
theorem dX10_kindHere_66 : decode cX10_kindHere 66 = .ok (.ldc_w 313, 3) := by decide +kernel
theorem dX10_kindHere_69 : decode cX10_kindHere 69 = .ok (.invokevirtual 278, 3) := by decide +kernel
theorem dX10_kindHere_72 : decode cX10_kindHere 72 = .ok (.ifCond .eq 7, 3) := by decide +kernel
theorem dX10_kindHere_79 : decode cX10_kindHere 79 = .ok (.iconst (-1), 1) := by decide +kernel
theorem dX10_kindHere_80 : decode cX10_kindHere 80 = .ok (.istore_n 1, 1) := by decide +kernel
theorem dX10_kindHere_81 : decode cX10_kindHere 81 = .ok (.aload_n 0, 1) := by decide +kernel
theorem dX10_kindHere_82 : decode cX10_kindHere 82 = .ok (.iload_n 1, 1) := by decide +kernel
theorem dX10_kindHere_83 : decode cX10_kindHere 83 = .ok (.iconst (-1), 1) := by decide +kernel
theorem dX10_kindHere_84 : decode cX10_kindHere 84 = .ok (.if_icmp .eq 7, 3) := by decide +kernel
theorem dX10_kindHere_91 : decode cX10_kindHere 91 = .ok (.iconst 0, 1) := by decide +kernel
theorem dX10_kindHere_92 : decode cX10_kindHere 92 = .ok (.iconst 1, 1) := by decide +kernel
theorem dX10_kindHere_93 : decode cX10_kindHere 93 = .ok (.invokevirtual 252, 3) := by decide +kernel
theorem dX10_kindHere_96 : decode cX10_kindHere 96 = .ok (.aload_n 0, 1) := by decide +kernel
theorem dX10_kindHere_97 : decode cX10_kindHere 97 = .ok (.invokevirtual 272, 3) := by decide +kernel
theorem dX10_kindHere_100 : decode cX10_kindHere 100 = .ok (.iload_n 1, 1) := by decide +kernel
theorem dX10_kindHere_101 : decode cX10_kindHere 101 = .ok (.ireturn, 1) := by decide +kernel
theorem dX10_kindHere_87 : decode cX10_kindHere 87 = .ok (.iconst 1, 1) := by decide +kernel
theorem dX10_kindHere_88 : decode cX10_kindHere 88 = .ok (.goto 4, 3) := by decide +kernel
theorem dX10_kindHere_75 : decode cX10_kindHere 75 = .ok (.iconst 4, 1) := by decide +kernel
theorem dX10_kindHere_76 : decode cX10_kindHere 76 = .ok (.goto 4, 3) := by decide +kernel
theorem dX10_kindHere_61 : decode cX10_kindHere 61 = .ok (.iconst 3, 1) := by decide +kernel
theorem dX10_kindHere_62 : decode cX10_kindHere 62 = .ok (.goto 18, 3) := by decide +kernel
theorem dX10_kindHere_47 : decode cX10_kindHere 47 = .ok (.iconst 2, 1) := by decide +kernel
theorem dX10_kindHere_48 : decode cX10_kindHere 48 = .ok (.goto 32, 3) := by decide +kernel
theorem dX10_kindHere_33 : decode cX10_kindHere 33 = .ok (.iconst 1, 1) := by decide +kernel
theorem dX10_kindHere_34 : decode cX10_kindHere 34 = .ok (.goto 46, 3) := by decide +kernel
theorem dX10_kindHere_19 : decode cX10_kindHere 19 = .ok (.iconst 0, 1) := by decide +kernel
theorem dX10_kindHere_20 : decode cX10_kindHere 20 = .ok (.goto 60, 3) := by decide +kernel
theorem dX10_kindHere_7 : decode cX10_kindHere 7 = .ok (.iconst 0, 1) := by decide +kernel
theorem dX10_kindHere_8 : decode cX10_kindHere 8 = .ok (.ireturn, 1) := by decide +kernel
abbrev mX10_yearHere : zM := (yX10_yearHere, cX10_yearHere, 1, (some .int), [])
theorem okX10_yearHere : zMok mX10_yearHere 0 := ⟨by decide, by decide, by decide +kernel⟩
theorem dX10_yearHere_0 : decode cX10_yearHere 0 = .ok (.aload_n 0, 1) := by decide +kernel
theorem dX10_yearHere_1 : decode cX10_yearHere 1 = .ok (.sipush 1450, 3) := by decide +kernel
theorem dX10_yearHere_4 : decode cX10_yearHere 4 = .ok (.sipush 1999, 3) := by decide +kernel
theorem dX10_yearHere_7 : decode cX10_yearHere 7 = .ok (.invokevirtual 282, 3) := by decide +kernel
theorem cw_RX10_282 : zCwV RX10 282 mX10_number := zall [1580, 1582, 36, 128, 1583] (by decide +kernel) (by decide +kernel)
theorem dX10_yearHere_10 : decode cX10_yearHere 10 = .ok (.ireturn, 1) := by decide +kernel
abbrev mX10_clueHere : zM := (yX10_clueHere, cX10_clueHere, 1, (some .int), [])
theorem okX10_clueHere : zMok mX10_clueHere 0 := ⟨by decide, by decide, by decide +kernel⟩
theorem dX10_clueHere_0 : decode cX10_clueHere 0 = .ok (.aload_n 0, 1) := by decide +kernel
theorem dX10_clueHere_1 : decode cX10_clueHere 1 = .ok (.iconst 0, 1) := by decide +kernel
theorem dX10_clueHere_2 : decode cX10_clueHere 2 = .ok (.bipush 39, 2) := by decide +kernel
theorem dX10_clueHere_4 : decode cX10_clueHere 4 = .ok (.invokevirtual 282, 3) := by decide +kernel
theorem dX10_clueHere_7 : decode cX10_clueHere 7 = .ok (.ireturn, 1) := by decide +kernel
abbrev mX10_valueHere : zM := (yX10_valueHere, cX10_valueHere, 2, (some .int), [])
theorem okX10_valueHere : zMok mX10_valueHere 1 := ⟨by decide, by decide, by decide +kernel⟩
theorem dX10_valueHere_0 : decode cX10_valueHere 0 = .ok (.iload_n 1, 1) := by decide +kernel
theorem dX10_valueHere_1 : decode cX10_valueHere 1 = .ok (.tableswitch 69 0 3 #[31, 39, 47, 61], 31) := by decide +kernel
theorem dX10_valueHere_32 : decode cX10_valueHere 32 = .ok (.aload_n 0, 1) := by decide +kernel
theorem dX10_valueHere_33 : decode cX10_valueHere 33 = .ok (.iconst 0, 1) := by decide +kernel
theorem dX10_valueHere_34 : decode cX10_valueHere 34 = .ok (.bipush 31, 2) := by decide +kernel
theorem dX10_valueHere_36 : decode cX10_valueHere 36 = .ok (.invokevirtual 282, 3) := by decide +kernel
theorem dX10_valueHere_39 : decode cX10_valueHere 39 = .ok (.ireturn, 1) := by decide +kernel
theorem dX10_valueHere_40 : decode cX10_valueHere 40 = .ok (.aload_n 0, 1) := by decide +kernel
theorem dX10_valueHere_41 : decode cX10_valueHere 41 = .ok (.iconst 0, 1) := by decide +kernel
theorem dX10_valueHere_42 : decode cX10_valueHere 42 = .ok (.bipush 15, 2) := by decide +kernel
theorem dX10_valueHere_44 : decode cX10_valueHere 44 = .ok (.invokevirtual 282, 3) := by decide +kernel
theorem dX10_valueHere_47 : decode cX10_valueHere 47 = .ok (.ireturn, 1) := by decide +kernel
theorem dX10_valueHere_48 : decode cX10_valueHere 48 = .ok (.aload_n 0, 1) := by decide +kernel
theorem dX10_valueHere_49 : decode cX10_valueHere 49 = .ok (.iconst 0, 1) := by decide +kernel
theorem dX10_valueHere_50 : decode cX10_valueHere 50 = .ok (.aload_n 0, 1) := by decide +kernel
theorem dX10_valueHere_51 : decode cX10_valueHere 51 = .ok (.getfield 7, 3) := by decide +kernel
theorem dX10_valueHere_54 : decode cX10_valueHere 54 = .ok (.iconst 1, 1) := by decide +kernel
theorem dX10_valueHere_55 : decode cX10_valueHere 55 = .ok (.iaload, 1) := by decide +kernel
theorem dX10_valueHere_56 : decode cX10_valueHere 56 = .ok (.iconst 1, 1) := by decide +kernel
theorem dX10_valueHere_57 : decode cX10_valueHere 57 = .ok (.isub, 1) := by decide +kernel
theorem dX10_valueHere_58 : decode cX10_valueHere 58 = .ok (.invokevirtual 282, 3) := by decide +kernel
theorem dX10_valueHere_61 : decode cX10_valueHere 61 = .ok (.ireturn, 1) := by decide +kernel
theorem dX10_valueHere_62 : decode cX10_valueHere 62 = .ok (.aload_n 0, 1) := by decide +kernel
theorem dX10_valueHere_63 : decode cX10_valueHere 63 = .ok (.iconst 0, 1) := by decide +kernel
theorem dX10_valueHere_64 : decode cX10_valueHere 64 = .ok (.bipush 9, 2) := by decide +kernel
theorem dX10_valueHere_66 : decode cX10_valueHere 66 = .ok (.invokevirtual 282, 3) := by decide +kernel
theorem dX10_valueHere_69 : decode cX10_valueHere 69 = .ok (.ireturn, 1) := by decide +kernel
theorem dX10_valueHere_70 : decode cX10_valueHere 70 = .ok (.aload_n 0, 1) := by decide +kernel
theorem dX10_valueHere_71 : decode cX10_valueHere 71 = .ok (.invokevirtual 294, 3) := by decide +kernel
theorem cw_RX10_294 : zCwV RX10 294 mX10_yearHere := zall [1586, 1588, 37, 128, 1589] (by decide +kernel) (by decide +kernel)
theorem dX10_valueHere_74 : decode cX10_valueHere 74 = .ok (.ireturn, 1) := by decide +kernel
abbrev mX10_startsText : zM := (yX10_startsText, cX10_startsText, 1, none, [])
theorem okX10_startsText : zMok mX10_startsText 0 := ⟨by decide, by decide, by decide +kernel⟩
theorem dX10_startsText_0 : decode cX10_startsText 0 = .ok (.aload_n 0, 1) := by decide +kernel
theorem dX10_startsText_1 : decode cX10_startsText 1 = .ok (.iconst 0, 1) := by decide +kernel
theorem dX10_startsText_2 : decode cX10_startsText 2 = .ok (.putfield 227, 3) := by decide +kernel
theorem dX10_startsText_5 : decode cX10_startsText 5 = .ok (.aload_n 0, 1) := by decide +kernel
theorem dX10_startsText_6 : decode cX10_startsText 6 = .ok (.iconst 0, 1) := by decide +kernel
theorem dX10_startsText_7 : decode cX10_startsText 7 = .ok (.putfield 233, 3) := by decide +kernel
theorem dX10_startsText_10 : decode cX10_startsText 10 = .ok (.aload_n 0, 1) := by decide +kernel
theorem dX10_startsText_11 : decode cX10_startsText 11 = .ok (.iconst 0, 1) := by decide +kernel
theorem dX10_startsText_12 : decode cX10_startsText 12 = .ok (.putfield 243, 3) := by decide +kernel
theorem dX10_startsText_15 : decode cX10_startsText 15 = .ok (.aload_n 0, 1) := by decide +kernel
theorem dX10_startsText_16 : decode cX10_startsText 16 = .ok (.iconst (-1), 1) := by decide +kernel
theorem dX10_startsText_17 : decode cX10_startsText 17 = .ok (.putfield 246, 3) := by decide +kernel
theorem dX10_startsText_20 : decode cX10_startsText 20 = .ok (.return_, 1) := by decide +kernel
abbrev mX10_endsText : zM := (yX10_endsText, cX10_endsText, 1, (some .boolean), [])
theorem okX10_endsText : zMok mX10_endsText 0 := ⟨by decide, by decide, by decide +kernel⟩
theorem dX10_endsText_0 : decode cX10_endsText 0 = .ok (.aload_n 0, 1) := by decide +kernel
theorem dX10_endsText_1 : decode cX10_endsText 1 = .ok (.iconst 0, 1) := by decide +kernel
theorem dX10_endsText_2 : decode cX10_endsText 2 = .ok (.putfield 61, 3) := by decide +kernel
theorem dX10_endsText_5 : decode cX10_endsText 5 = .ok (.aload_n 0, 1) := by decide +kernel
theorem dX10_endsText_6 : decode cX10_endsText 6 = .ok (.aload_n 0, 1) := by decide +kernel
theorem dX10_endsText_7 : decode cX10_endsText 7 = .ok (.getfield 243, 3) := by decide +kernel
theorem dX10_endsText_10 : decode cX10_endsText 10 = .ok (.putfield 275, 3) := by decide +kernel
theorem fl_RX10_275 : zFl RX10 275 10 22 := ⟨RX10, TX10, 28, rfl, by decide, zmem1 1675 (by decide +kernel) rfl, rfl⟩
theorem fp_10_22 : zFi 10 22 "I" := ⟨RX10, TX10, 28, rfl, rfl, rfl⟩
theorem dX10_endsText_13 : decode cX10_endsText 13 = .ok (.aload_n 0, 1) := by decide +kernel
theorem dX10_endsText_14 : decode cX10_endsText 14 = .ok (.aload_n 0, 1) := by decide +kernel
theorem dX10_endsText_15 : decode cX10_endsText 15 = .ok (.getfield 246, 3) := by decide +kernel
theorem dX10_endsText_18 : decode cX10_endsText 18 = .ok (.putfield 34, 3) := by decide +kernel
theorem fl_RX10_34 : zFl RX10 34 10 23 := ⟨RX10, TX10, 28, rfl, by decide, zmem1 1676 (by decide +kernel) rfl, rfl⟩
theorem fp_10_23 : zFi 10 23 "I" := ⟨RX10, TX10, 28, rfl, rfl, rfl⟩
theorem dX10_endsText_21 : decode cX10_endsText 21 = .ok (.aload_n 0, 1) := by decide +kernel
theorem dX10_endsText_22 : decode cX10_endsText 22 = .ok (.getfield 243, 3) := by decide +kernel
theorem dX10_endsText_25 : decode cX10_endsText 25 = .ok (.ifCond .ne 7, 3) := by decide +kernel
theorem dX10_endsText_32 : decode cX10_endsText 32 = .ok (.iconst 0, 1) := by decide +kernel
theorem dX10_endsText_33 : decode cX10_endsText 33 = .ok (.ireturn, 1) := by decide +kernel
theorem dX10_endsText_28 : decode cX10_endsText 28 = .ok (.iconst 1, 1) := by decide +kernel
theorem dX10_endsText_29 : decode cX10_endsText 29 = .ok (.goto 4, 3) := by decide +kernel
abbrev mX10_errorCode : zM := (yX10_errorCode, cX10_errorCode, 1, (some .int), [])
theorem okX10_errorCode : zMok mX10_errorCode 0 := ⟨by decide, by decide, by decide +kernel⟩
theorem dX10_errorCode_0 : decode cX10_errorCode 0 = .ok (.aload_n 0, 1) := by decide +kernel
theorem dX10_errorCode_1 : decode cX10_errorCode 1 = .ok (.iconst 0, 1) := by decide +kernel
theorem dX10_errorCode_2 : decode cX10_errorCode 2 = .ok (.putfield 67, 3) := by decide +kernel
theorem dX10_errorCode_5 : decode cX10_errorCode 5 = .ok (.aload_n 0, 1) := by decide +kernel
theorem dX10_errorCode_6 : decode cX10_errorCode 6 = .ok (.getfield 275, 3) := by decide +kernel
theorem dX10_errorCode_9 : decode cX10_errorCode 9 = .ok (.ireturn, 1) := by decide +kernel
abbrev mX10_errorPosition : zM := (yX10_errorPosition, cX10_errorPosition, 1, (some .int), [])
theorem okX10_errorPosition : zMok mX10_errorPosition 0 := ⟨by decide, by decide, by decide +kernel⟩
theorem dX10_errorPosition_0 : decode cX10_errorPosition 0 = .ok (.aload_n 0, 1) := by decide +kernel
theorem dX10_errorPosition_1 : decode cX10_errorPosition 1 = .ok (.iconst 0, 1) := by decide +kernel
theorem dX10_errorPosition_2 : decode cX10_errorPosition 2 = .ok (.putfield 67, 3) := by decide +kernel
theorem dX10_errorPosition_5 : decode cX10_errorPosition 5 = .ok (.aload_n 0, 1) := by decide +kernel
theorem dX10_errorPosition_6 : decode cX10_errorPosition 6 = .ok (.getfield 34, 3) := by decide +kernel
theorem dX10_errorPosition_9 : decode cX10_errorPosition 9 = .ok (.ireturn, 1) := by decide +kernel
/-! names and what a line begins with -/
theorem MX_R {D : zBk} {σ τ : zS} (h : MX σ τ) (hR : Rel D (σ.1 262)) : Rel D (τ.1 262) := mfr_R h (fun q => q) hR
theorem pkF_inj {f g : Nat → Int} : ∀ {m k : Nat}, m ≤ 6 → k ≤ 6 → (∀ i, i < m → 97 ≤ f i ∧ f i ≤ 122) → (∀ i, i < k → 97 ≤ g i ∧ g i ≤ 122) → pkF f m = pkF g k → m = k ∧ ∀ i, i < m → f i = g i
  | 0, 0, _, _, _, _, _ => ⟨rfl, fun i hi => absurd hi (Nat.not_lt_zero i)⟩
  | 0, k + 1, _, hk, _, hg, e => by
    have := pkF_p (f := g) (n := k + 1) (by omega) hk hg
    rw [← e] at this; exact absurd this (by show ¬ (1 : Int) ≤ 0; decide)
  | m + 1, 0, hm, _, hf, _, e => by
    have := pkF_p (f := f) (n := m + 1) (by omega) hm hf
    rw [e] at this; exact absurd this (by show ¬ (1 : Int) ≤ 0; decide)
  | m + 1, k + 1, hm, hk, hf, hg, e => by
    have a := hf m (Nat.lt_succ_self m)
    have b := hg k (Nat.lt_succ_self k)
    rw [pkF, pkF] at e
    obtain ⟨h1, h2⟩ := pkF_inj (m := m) (k := k) (by omega) (by omega) (fun i hi => hf i (by omega)) (fun i hi => hg i (by omega)) (by omega)
    subst h1
    refine ⟨rfl, fun i hi => ?_⟩
    rcases Nat.lt_or_ge i m with q | q
    · exact h2 i q
    · rw [show i = m by omega]; omega
theorem pkF_cg {f g : Nat → Int} : ∀ {m : Nat}, (∀ i, i < m → f i = g i) → pkF f m = pkF g m
  | 0, _ => rfl
  | m + 1, h => by rw [pkF, pkF, pkF_cg (m := m) (fun i hi => h i (by omega)), h m (Nat.lt_succ_self m)]
theorem nmv_w {t : Nat → Int} {n : Nat} {S : zP} (h : ¬ nmv t n S = 0) : xK t n S.1 = 1 ∧ xW t n S.1 ≤ 6 ∧ nmv t n S = pkF (fun i => t (xS t n S.1 + i)) (xW t n S.1) ∧ (∀ i, i < xW t n S.1 → xS t n S.1 + i < n ∧ 97 ≤ t (xS t n S.1 + i) ∧ t (xS t n S.1 + i) ≤ 122) := by
  by_cases c : S.2.1 = 0 ∧ xK t n S.1 = 1 ∧ xE t n S.1 - xS t n S.1 ≤ 6
  · have e := xW_1 c.2.1
    have ew : xE t n S.1 - xS t n S.1 = xW t n S.1 := by omega
    refine ⟨c.2.1, by omega, ?_, fun i hi => ?_⟩
    · have : nmv t n S = pkF (fun i => t (xS t n S.1 + i)) (xE t n S.1 - xS t n S.1) := if_pos c
      rw [this, ew]
    · exact (tok_w c.2.1).2 _ (by omega) (by omega)
  · exact absurd (if_neg c) h
noncomputable def pW (t : Nat → Int) (n : Nat) (S : zP) (j : Nat) (A : Prop) : zP := @ite zP (isW t n S.1 j) (Classical.propDecidable _) (@ite zP A (Classical.propDecidable _) (if S.2.1 = 0 then pN t n S else S) (pF t n S 4)) (pF t n S 1)
def loM (k : Int) : Int := if k = 0 ∨ k = 1 ∨ k = 2 ∨ k = 3 then 0 else 1450

theorem kdv_w {t : Nat → Int} {n p : Nat} (h : ¬ kdv t n p = -1) : xK t n p = 1 := by
  by_cases c : xK t n p = 1
  · exact c
  · exact absurd (kdv_n (fun q => c q.1) (fun q => c q.1) (fun q => c q.1) (fun q => c q.1) (fun q => c q.1)) h
theorem pW_k {t : Nat → Int} {n j : Nat} {S : zP} {A : Prop} : (@ite zP A (Classical.propDecidable _) (@ite zP (S.2.1 = 0 ∧ isW t n S.1 j) (Classical.propDecidable _) S (pF t n S 1)) (pF t n (@ite zP (S.2.1 = 0 ∧ isW t n S.1 j) (Classical.propDecidable _) S (pF t n S 1)) 4)).2.1 = 0 → xK t n (@ite zP A (Classical.propDecidable _) (@ite zP (S.2.1 = 0 ∧ isW t n S.1 j) (Classical.propDecidable _) S (pF t n S 1)) (pF t n (@ite zP (S.2.1 = 0 ∧ isW t n S.1 j) (Classical.propDecidable _) S (pF t n S 1)) 4)).1 = 1 := by
  intro q
  by_cases a : A
  · rw [if_pos a] at q ⊢
    by_cases b : S.2.1 = 0 ∧ isW t n S.1 j
    · rw [if_pos b] at q ⊢; exact b.2.1
    · rw [if_neg b] at q; exact absurd q (pF_nz (by decide))
  · rw [if_neg a] at q; exact absurd q (pF_nz (by decide))
theorem pW_e {t : Nat → Int} {n j : Nat} {S : zP} {A : Prop} : (if (@ite zP A (Classical.propDecidable _) (@ite zP (S.2.1 = 0 ∧ isW t n S.1 j) (Classical.propDecidable _) S (pF t n S 1)) (pF t n (@ite zP (S.2.1 = 0 ∧ isW t n S.1 j) (Classical.propDecidable _) S (pF t n S 1)) 4)).2.1 = 0 then pN t n (@ite zP A (Classical.propDecidable _) (@ite zP (S.2.1 = 0 ∧ isW t n S.1 j) (Classical.propDecidable _) S (pF t n S 1)) (pF t n (@ite zP (S.2.1 = 0 ∧ isW t n S.1 j) (Classical.propDecidable _) S (pF t n S 1)) 4)) else (@ite zP A (Classical.propDecidable _) (@ite zP (S.2.1 = 0 ∧ isW t n S.1 j) (Classical.propDecidable _) S (pF t n S 1)) (pF t n (@ite zP (S.2.1 = 0 ∧ isW t n S.1 j) (Classical.propDecidable _) S (pF t n S 1)) 4))) = pW t n S j A := by
  unfold pW
  by_cases b : S.2.1 = 0 ∧ isW t n S.1 j
  · rw [if_pos b, if_pos b.2]
    by_cases a : A
    · rw [if_pos a, if_pos b.1, if_pos a]
    · rw [if_neg a, if_neg (pF_nz (by decide)), if_neg a]
  · rw [if_neg b]
    have e : pF t n (pF t n S 1) 4 = pF t n S 1 := pF_n (pF_nz (by decide))
    rw [e, ite_self]
    rw [if_neg (pF_nz (by decide))]
    by_cases c : isW t n S.1 j
    · have z : ¬ S.2.1 = 0 := fun q => b ⟨q, c⟩
      rw [if_pos c, if_neg z, pF_n z, pF_n z, ite_self]
    · rw [if_neg c]

set_option maxRecDepth 20000 in
set_option maxHeartbeats 2000000 in
theorem sX10_isNamed {l : Launch} {w : zW} (hfl : l.stackTraces = false) {σ : zS} {D : zBk} {t : Nat → Int} {n : Nat} {S : zP} {p : Nat} (hz : zOK σ) (hW : WF D) (hR : Rel D (σ.1 262)) (hU : PN t n S σ) (z : S.2.1 = 0) (hnm : ¬ nmv t n S = 0) (hp : (p : Int) < D 1 0) : Sp l w mX10_isNamed 1 0 [zf 10 261, zi ((p : Nat) : Int)] σ (zret (zi (zb (D 2 p = nmv t n S))) σ) := by
  obtain ⟨Q, hQ⟩ : ∃ Q : zQ, Q = (zret (zi (zb (D 2 p = nmv t n S))) σ) := ⟨_, rfl⟩
  rw [← hQ]
  refine zx_enter hfl (by decide) rfl 2 rfl ?_
  show zX l w mX10_isNamed (zMQ w 1 0 Q) 0 [zf 10 261, zi ((p : Nat) : Int), zu, zu] [] 0 σ
  have hP : 0 ≤ D 1 0 ∧ D 1 0 ≤ 8 := hW.1.1
  have hM : 0 ≤ D 1 7 ∧ D 1 7 ≤ 8 := hW.1.2.1
  have hE : 0 ≤ D 1 10 ∧ D 1 10 ≤ 12 := hW.1.2.2.1
  have hK : 0 ≤ D 12 0 ∧ D 12 0 ≤ 40 := hW.1.2.2.2
  have r0 : σ.1 262 0 = D 1 0 := hR.1.1
  have r1 : σ.1 262 1 = D 1 7 := hR.1.2.1
  have r2 : σ.1 262 2 = D 1 10 := hR.1.2.2.1
  have r3 : σ.1 262 3 = D 12 0 := hR.1.2.2.2
  obtain ⟨w17, w18, w19⟩ := hU.2 z
  obtain ⟨k1, l6, hnv, hlt⟩ := nmv_w hnm
  have hwb := hU.1.2.2.2.2.1
  have hnn := hU.1.2.1
  obtain ⟨nm1, nm2, nm3⟩ := (hR.2.1 p hp).1
  refine zx_iconst dX10_isNamed_0 ?_
  refine zx_bipush dX10_isNamed_1 rfl ?_
  refine zx_iloadN dX10_isNamed_3 rfl rfl ?_
  refine zx_imul dX10_isNamed_4 ?_
  refine zx_iadd dX10_isNamed_5 ?_
  refine zy_top (b := ((4 + 12 * p : Nat) : Int)) (by omega) ?_
  refine zy_istoreN [zf 10 261, zi ((p : Nat) : Int), zi ((4 + 12 * p : Nat) : Int), zu] dX10_isNamed_6 rfl (Nat.le_of_ble_eq_true rfl) (Nat.le_of_ble_eq_true rfl) rfl rfl ?_
  refine zx_aloadN dX10_isNamed_7 rfl rfl ?_
  refine zy_getR (q' := 262) fl_RX10_7 rfl dX10_isNamed_8 rfl ?_
  refine zx_iloadN dX10_isNamed_11 rfl rfl ?_
  refine zy_iald (v := σ.1 262 (4 + 12 * p)) rfl (by decide) (by decide) dX10_isNamed_12 (by omega) (by omega) rfl ?_
  refine zx_aloadN dX10_isNamed_13 rfl rfl ?_
  refine zy_getI fl_RX10_236 rfl dX10_isNamed_14 rfl ?_
  refine zy_top (b := ((xW t n S.1 : Nat) : Int)) (w19) ?_
  refine zx_icmp_eq (tgt := 22) (by first | exact hz _ _ | assumption | exact zr_b _ | exact zcmp_r _ _ | exact uM_z (by assumption) _ _ | (unfold zr at *; omega)) (by first | exact hz _ _ | assumption | exact zr_b _ | exact zcmp_r _ _ | exact uM_z (by assumption) _ _ | (unfold zr at *; omega)) dX10_isNamed_17 (by decide) (fun h17 => ?_) (fun h17 => ?_)
  · refine zx_iconst dX10_isNamed_22 ?_
    refine zy_istoreN [zf 10 261, zi ((p : Nat) : Int), zi ((4 + 12 * p : Nat) : Int), zi 0] dX10_isNamed_23 rfl (Nat.le_of_ble_eq_true rfl) (Nat.le_of_ble_eq_true rfl) rfl rfl ?_
    have L24 : ∀ (N : Nat) (i : Nat), (i ≤ xW t n S.1) → (∀ k, k < i → σ.1 262 (4 + 12 * p + 1 + k) = t (xS t n S.1 + k)) → (7 - i) < N → zX l w mX10_isNamed (zMQ w 1 0 Q) 24 [zf 10 261, zi ((p : Nat) : Int), zi ((4 + 12 * p : Nat) : Int), zi ((i : Nat) : Int)] [] 0 σ := by
      intro N
      induction N with
      | zero => intro i _ _ _; exact absurd (by assumption) (Nat.not_lt_zero _)
      | succ N ih24 =>
        intro i hi hj hN
        refine zx_iloadN dX10_isNamed_24 rfl rfl ?_
        refine zx_aloadN dX10_isNamed_25 rfl rfl ?_
        refine zy_getI fl_RX10_236 rfl dX10_isNamed_26 rfl ?_
        refine zy_top (b := ((xW t n S.1 : Nat) : Int)) (w19) ?_
        refine zx_icmp_ge (tgt := 63) (by first | exact hz _ _ | assumption | exact zr_b _ | exact zcmp_r _ _ | exact uM_z (by assumption) _ _ | (unfold zr at *; omega)) (by first | exact hz _ _ | assumption | exact zr_b _ | exact zcmp_r _ _ | exact uM_z (by assumption) _ _ | (unfold zr at *; omega)) dX10_isNamed_29 (by decide) (fun h29 => ?_) (fun h29 => ?_)
        · refine zx_iconst dX10_isNamed_63 ?_
          refine zx_iret rfl rfl dX10_isNamed_64 ?_
          rw [hQ]
          refine ⟨congrArg (fun z : Int => (Sum.inl (some (zi z)) : Option zV ⊕ String)) ?_, by first | rfl | (exfalso; omega)⟩
          first
          | exact (zb_f (fun q => by
              rw [hnv, nm3] at q
              have e := pkF_inj (by omega) l6 (fun k hk => nm2 k (by omega)) (fun k hk => (hlt k hk).2) q
              have e1 := e.1
              omega)).symm
          | exact (zb_f (fun q => by
              rw [hnv, nm3] at q
              have e := pkF_inj (by omega) l6 (fun k hk => nm2 k (by omega)) (fun k hk => (hlt k hk).2) q
              have e1 := e.2 i (by omega)
              omega)).symm
          | exact (zb_t (show D 2 p = nmv t n S by
              rw [hnv, nm3, show (σ.1 262 (4 + 12 * p)).toNat = xW t n S.1 by omega]
              exact pkF_cg (fun k hk => hj k (by omega)))).symm
        · refine zx_aloadN dX10_isNamed_32 rfl rfl ?_
          refine zy_getR (q' := 262) fl_RX10_7 rfl dX10_isNamed_33 rfl ?_
          refine zx_iloadN dX10_isNamed_36 rfl rfl ?_
          refine zx_iconst dX10_isNamed_37 ?_
          refine zx_iadd dX10_isNamed_38 ?_
          refine zx_iloadN dX10_isNamed_39 rfl rfl ?_
          refine zx_iadd dX10_isNamed_40 ?_
          refine zy_top (b := ((4 + 12 * p + 1 + i : Nat) : Int)) (by omega) ?_
          refine zy_iald (v := σ.1 262 (4 + 12 * p + 1 + i)) rfl (by decide) (by decide) dX10_isNamed_41 (by omega) (by omega) rfl ?_
          refine zx_aloadN dX10_isNamed_42 rfl rfl ?_
          refine zx_aloadN dX10_isNamed_43 rfl rfl ?_
          refine zy_getI fl_RX10_233 rfl dX10_isNamed_44 rfl ?_
          refine zy_top (b := ((xS t n S.1 : Nat) : Int)) (w18) ?_
          refine zx_iloadN dX10_isNamed_47 rfl rfl ?_
          refine zx_iadd dX10_isNamed_48 ?_
          refine zy_top (b := ((xS t n S.1 + i : Nat) : Int)) (by omega) ?_
          refine zy_cv [zi ((xS t n S.1 + i : Nat) : Int)] (sX10_byteAt (n := n) (k := (xS t n S.1 + i)) hfl hz hnn (by omega)) dX10_isNamed_49 (by decide) rfl cw_RX10_230 okX10_byteAt rfl (Nat.le_of_ble_eq_true rfl) ⟨Nat.le_of_ble_eq_true rfl, Nat.le_of_ble_eq_true rfl, Nat.le_of_ble_eq_true rfl, Nat.le_of_ble_eq_true rfl⟩ ?_
          have hli := hlt i (by omega)
          have hut := uM_t hU.1.1 hli.1 (by omega)
          refine zx_icmp_eq (tgt := 57) (by first | exact hz _ _ | assumption | exact zr_b _ | exact zcmp_r _ _ | exact uM_z (by assumption) _ _ | (unfold zr at *; omega)) (by first | exact hz _ _ | assumption | exact zr_b _ | exact zcmp_r _ _ | exact uM_z (by assumption) _ _ | (unfold zr at *; omega)) dX10_isNamed_52 (by decide) (fun h52 => ?_) (fun h52 => ?_)
          · refine zy_iinc (b := ((i + 1 : Nat) : Int)) [zf 10 261, zi ((p : Nat) : Int), zi ((4 + 12 * p : Nat) : Int), zi ((i + 1 : Nat) : Int)] dX10_isNamed_57 rfl (by omega) (Nat.le_of_ble_eq_true rfl) rfl rfl ?_
            refine zx_goto (tgt := 24) dX10_isNamed_60 (by decide) ?_
            exact ih24 (i + 1) (by omega) (lt_s hj (by omega)) (by omega)
          · refine zx_iconst dX10_isNamed_55 ?_
            refine zx_iret rfl rfl dX10_isNamed_56 ?_
            rw [hQ]
            refine ⟨congrArg (fun z : Int => (Sum.inl (some (zi z)) : Option zV ⊕ String)) ?_, by first | rfl | (exfalso; omega)⟩
            first
            | exact (zb_f (fun q => by
                rw [hnv, nm3] at q
                have e := pkF_inj (by omega) l6 (fun k hk => nm2 k (by omega)) (fun k hk => (hlt k hk).2) q
                have e1 := e.1
                omega)).symm
            | exact (zb_f (fun q => by
                rw [hnv, nm3] at q
                have e := pkF_inj (by omega) l6 (fun k hk => nm2 k (by omega)) (fun k hk => (hlt k hk).2) q
                have e1 := e.2 i (by omega)
                omega)).symm
            | exact (zb_t (show D 2 p = nmv t n S by
                rw [hnv, nm3, show (σ.1 262 (4 + 12 * p)).toNat = xW t n S.1 by omega]
                exact pkF_cg (fun k hk => hj k (by omega)))).symm
    exact L24 _ 0 (by omega) (fun k hk => absurd hk (Nat.not_lt_zero k)) (Nat.lt_succ_self _)
  · refine zx_iconst dX10_isNamed_20 ?_
    refine zx_iret rfl rfl dX10_isNamed_21 ?_
    rw [hQ]
    refine ⟨congrArg (fun z : Int => (Sum.inl (some (zi z)) : Option zV ⊕ String)) ?_, by first | rfl | (exfalso; omega)⟩
    first
    | exact (zb_f (fun q => by
        rw [hnv, nm3] at q
        have e := pkF_inj (by omega) l6 (fun k hk => nm2 k (by omega)) (fun k hk => (hlt k hk).2) q
        have e1 := e.1
        omega)).symm
    | exact (zb_f (fun q => by
        rw [hnv, nm3] at q
        have e := pkF_inj (by omega) l6 (fun k hk => nm2 k (by omega)) (fun k hk => (hlt k hk).2) q
        have e1 := e.2 i (by omega)
        omega)).symm
    | exact (zb_t (show D 2 p = nmv t n S by
        rw [hnv, nm3, show (σ.1 262 (4 + 12 * p)).toNat = xW t n S.1 by omega]
        exact pkF_cg (fun k hk => hj k (by omega)))).symm
set_option maxRecDepth 20000 in
set_option maxHeartbeats 2000000 in
theorem sX10_printerHere {l : Launch} {w : zW} (hfl : l.stackTraces = false) {σ : zS} {D : zBk} {t : Nat → Int} {n : Nat} {S : zP}  (hz : zOK σ) (hW : WF D) (hR : Rel D (σ.1 262)) (hU : PN t n S σ) (z : S.2.1 = 0) (hnm : ¬ nmv t n S = 0) : Sp l w mX10_printerHere 2 0 [zf 10 261] σ (zret (zi (fz (D 2) (D 1 0) (nmv t n S))) σ) := by
  obtain ⟨Q, hQ⟩ : ∃ Q : zQ, Q = (zret (zi (fz (D 2) (D 1 0) (nmv t n S))) σ) := ⟨_, rfl⟩
  rw [← hQ]
  refine zx_enter hfl (by decide) rfl 1 rfl ?_
  show zX l w mX10_printerHere (zMQ w 2 0 Q) 0 [zf 10 261, zu] [] 0 σ
  have hP : 0 ≤ D 1 0 ∧ D 1 0 ≤ 8 := hW.1.1
  have hM : 0 ≤ D 1 7 ∧ D 1 7 ≤ 8 := hW.1.2.1
  have hE : 0 ≤ D 1 10 ∧ D 1 10 ≤ 12 := hW.1.2.2.1
  have hK : 0 ≤ D 12 0 ∧ D 12 0 ≤ 40 := hW.1.2.2.2
  have r0 : σ.1 262 0 = D 1 0 := hR.1.1
  have r1 : σ.1 262 1 = D 1 7 := hR.1.2.1
  have r2 : σ.1 262 2 = D 1 10 := hR.1.2.2.1
  have r3 : σ.1 262 3 = D 12 0 := hR.1.2.2.2
  have hP8 := hW.1.1
  refine zx_iconst dX10_printerHere_0 ?_
  refine zy_istoreN [zf 10 261, zi 0] dX10_printerHere_1 rfl (Nat.le_of_ble_eq_true rfl) (Nat.le_of_ble_eq_true rfl) rfl rfl ?_
  have L2 : ∀ (N : Nat) (i : Nat), ((i : Int) ≤ D 1 0) → (∀ j, j < i → ¬ D 2 j = nmv t n S) → (9 - i) < N → zX l w mX10_printerHere (zMQ w 2 0 Q) 2 [zf 10 261, zi ((i : Nat) : Int)] [] 0 σ := by
    intro N
    induction N with
    | zero => intro i _ _ _; exact absurd (by assumption) (Nat.not_lt_zero _)
    | succ N ih2 =>
      intro i hi_ hj hN
      refine zx_iloadN dX10_printerHere_2 rfl rfl ?_
      refine zx_aloadN dX10_printerHere_3 rfl rfl ?_
      refine zy_getR (q' := 262) fl_RX10_7 rfl dX10_printerHere_4 rfl ?_
      refine zx_iconst dX10_printerHere_7 ?_
      refine zy_iald (v := σ.1 262 0) rfl (by decide) (by decide) dX10_printerHere_8 (by omega) (by omega) rfl ?_
      refine zy_top (b := D 1 0) (hR.1.1) ?_
      refine zx_icmp_ge (tgt := 28) (by first | exact hz _ _ | assumption | exact zr_b _ | exact zcmp_r _ _ | (unfold zr at *; omega)) (by first | exact hz _ _ | assumption | exact zr_b _ | exact zcmp_r _ _ | (unfold zr at *; omega)) dX10_printerHere_9 (by decide) (fun h9 => ?_) (fun h9 => ?_)
      · refine zx_iconst dX10_printerHere_28 ?_
        refine zx_iret rfl rfl dX10_printerHere_29 ?_
        rw [hQ]
        refine ⟨congrArg (fun z : Int => (Sum.inl (some (zi z)) : Option zV ⊕ String)) ?_, by first | rfl | (exfalso; omega)⟩
        unfold fz
        first | exact (zfst_no (fun j hj2 => hj j (by omega))).symm | exact (zfst_at (by omega) hj h17).symm
      · refine zx_aloadN dX10_printerHere_12 rfl rfl ?_
        refine zx_iloadN dX10_printerHere_13 rfl rfl ?_
        refine zy_cv [zi ((i : Nat) : Int)] (sX10_isNamed (D := D) (p := i) hfl hz (by first | assumption | omega) (by first | assumption | (refine Rel_put (by decide) ?_; assumption) | (refine Rel_put (by decide) (Rel_put (by decide) ?_); assumption) | (refine Rel_put (by decide) (Rel_put (by decide) (Rel_put (by decide) ?_)); assumption)) hU z hnm (by omega)) dX10_printerHere_14 (by decide) rfl cw_RX10_262 okX10_isNamed rfl (Nat.le_of_ble_eq_true rfl) ⟨Nat.le_of_ble_eq_true rfl, Nat.le_of_ble_eq_true rfl, Nat.le_of_ble_eq_true rfl, Nat.le_of_ble_eq_true rfl⟩ ?_
        refine zx_if_eq (tgt := 22) (by first | exact hz _ _ | assumption | exact zr_b _ | exact zcmp_r _ _ | (unfold zr at *; omega)) dX10_printerHere_17 (by decide) (fun h17 => ?_) (fun h17 => ?_)
        · have h17 := zb_0.mp h17
          refine zy_iinc (b := ((i + 1 : Nat) : Int)) [zf 10 261, zi ((i + 1 : Nat) : Int)] dX10_printerHere_22 rfl (by omega) (Nat.le_of_ble_eq_true rfl) rfl rfl ?_
          refine zx_goto (tgt := 2) dX10_printerHere_25 (by decide) ?_
          exact ih2 (i + 1) (by first | assumption | omega) (lt_s hj h17) (by omega)
        · have h17 := zb_n.mp h17
          refine zx_iloadN dX10_printerHere_20 rfl rfl ?_
          refine zx_iret rfl rfl dX10_printerHere_21 ?_
          rw [hQ]
          refine ⟨congrArg (fun z : Int => (Sum.inl (some (zi z)) : Option zV ⊕ String)) ?_, by first | rfl | (exfalso; omega)⟩
          unfold fz
          first | exact (zfst_no (fun j hj2 => hj j (by omega))).symm | exact (zfst_at (by omega) hj h17).symm
  exact L2 _ 0 (by first | assumption | omega) (fun k hk => absurd hk (Nat.not_lt_zero k)) (Nat.lt_succ_self _)
set_option maxRecDepth 20000 in
set_option maxHeartbeats 2000000 in
theorem sX10_mustBe {l : Launch} {w : zW} (hfl : l.stackTraces = false) {σ : zS} {D : zBk} {t : Nat → Int} {n : Nat} {S : zP}  (hz : zOK σ) (hW : WF D) (hR : Rel D (σ.1 262)) (hU : PM t n S σ) : Sp l w mX10_mustBe 3 0 [zf 10 261] σ (zqv (some (zi (if (pPrn t n (D 2) (D 1 0) S).2.1 = 0 then fz (D 2) (D 1 0) (nmv t n S) else 0))) (fun τ => zOK τ ∧ MX σ τ ∧ PM t n (pPrn t n (D 2) (D 1 0) S) τ)) := by
  obtain ⟨Q, hQ⟩ : ∃ Q : zQ, Q = (zqv (some (zi (if (pPrn t n (D 2) (D 1 0) S).2.1 = 0 then fz (D 2) (D 1 0) (nmv t n S) else 0))) (fun τ => zOK τ ∧ MX σ τ ∧ PM t n (pPrn t n (D 2) (D 1 0) S) τ)) := ⟨_, rfl⟩
  rw [← hQ]
  refine zx_enter hfl (by decide) rfl 1 rfl ?_
  show zX l w mX10_mustBe (zMQ w 3 0 Q) 0 [zf 10 261, zu] [] 0 σ
  have hP : 0 ≤ D 1 0 ∧ D 1 0 ≤ 8 := hW.1.1
  have hM : 0 ≤ D 1 7 ∧ D 1 7 ≤ 8 := hW.1.2.1
  have hE : 0 ≤ D 1 10 ∧ D 1 10 ≤ 12 := hW.1.2.2.1
  have hK : 0 ≤ D 12 0 ∧ D 12 0 ≤ 40 := hW.1.2.2.2
  have r0 : σ.1 262 0 = D 1 0 := hR.1.1
  have r1 : σ.1 262 1 = D 1 7 := hR.1.2.1
  have r2 : σ.1 262 2 = D 1 10 := hR.1.2.2.1
  have r3 : σ.1 262 3 = D 12 0 := hR.1.2.2.2
  have hP8 := hW.1.1
  have hfr := fz_r (D 2) hW.1.1 (nmv t n S)
  refine zx_aloadN dX10_mustBe_0 rfl rfl ?_
  refine zy_cvR [] (sX10_isName  hfl hz hU) dX10_mustBe_1 (by decide) rfl cw_RX10_265 okX10_isName rfl (Nat.le_of_ble_eq_true rfl) ⟨Nat.le_of_ble_eq_true rfl, Nat.le_of_ble_eq_true rfl, Nat.le_of_ble_eq_true rfl, Nat.le_of_ble_eq_true rfl⟩ (fun τ1 hr1 => ?_)
  have hz1 : zOK τ1 := hr1.1
  have hR1 := MX_R hr1.2.1 hR
  refine zx_if_ne (tgt := 9) (by first | exact hz1 _ _ | assumption | exact zr_b _ | exact zcmp_r _ _ | (unfold zr at *; omega)) dX10_mustBe_4 (by decide) (fun h4 => ?_) (fun h4 => ?_)
  · have h4 := zb_n.mp h4
    have hq1 : PN t n S τ1 := by have q := hr1.2.2; rw [if_neg h4] at q; exact q
    have z : S.2.1 = 0 := nmv_s h4
    refine zx_aloadN dX10_mustBe_9 rfl rfl ?_
    refine zy_cv [] (sX10_printerHere (D := D) hfl hz1 (by first | assumption | omega) hR1 hq1 z h4) dX10_mustBe_10 (by decide) rfl cw_RX10_269 okX10_printerHere rfl (Nat.le_of_ble_eq_true rfl) ⟨Nat.le_of_ble_eq_true rfl, Nat.le_of_ble_eq_true rfl, Nat.le_of_ble_eq_true rfl, Nat.le_of_ble_eq_true rfl⟩ ?_
    refine zy_istoreN [zf 10 261, zi (fz (D 2) (D 1 0) (nmv t n S))] dX10_mustBe_13 rfl (Nat.le_of_ble_eq_true rfl) (Nat.le_of_ble_eq_true rfl) rfl rfl ?_
    refine zx_aloadN dX10_mustBe_14 rfl rfl ?_
    refine zx_iloadN dX10_mustBe_15 rfl rfl ?_
    refine zx_iconst dX10_mustBe_16 ?_
    refine zx_icmp_eq (tgt := 24) (by first | exact hz1 _ _ | assumption | exact zr_b _ | exact zcmp_r _ _ | (unfold zr at *; omega)) (by first | exact hz1 _ _ | assumption | exact zr_b _ | exact zcmp_r _ _ | (unfold zr at *; omega)) dX10_mustBe_17 (by decide) (fun h17 => ?_) (fun h17 => ?_)
    · refine zx_iconst dX10_mustBe_24 ?_
      refine zy_top (b := zb False) (zb_f (fun q => q)).symm ?_
      refine zx_iconst dX10_mustBe_25 ?_
      refine zy_cvvR [zi (zb False), zi 3] (sX10_must (A := False) hfl hz1 hq1 (by omega)) dX10_mustBe_26 (by decide) rfl cw_RX10_252 okX10_must rfl (Nat.le_of_ble_eq_true rfl) ⟨Nat.le_of_ble_eq_true rfl, Nat.le_of_ble_eq_true rfl, Nat.le_of_ble_eq_true rfl, Nat.le_of_ble_eq_true rfl⟩ (fun τ26 hr26 => ?_)
      have hz26 : zOK τ26 := hr26.1
      have hq : PN t n (if fz (D 2) (D 1 0) (nmv t n S) = -1 then pF t n S 3 else S) τ26 := by
        have q := hr26.2.2.1
        first
        | (rw [if_pos trivial] at q; rw [if_neg h17]; exact q)
        | (rw [if_neg (fun r => r)] at q; rw [if_pos h17]; exact q)
      refine zx_aloadN dX10_mustBe_29 rfl rfl ?_
      refine zy_cvvR [] (sX10_goesPast (S := (if fz (D 2) (D 1 0) (nmv t n S) = -1 then pF t n S 3 else S)) hfl hz26 hq (fun q => by first | (rw [if_neg h17]; exact (nmv_w h4).1) | (rw [if_pos h17] at q; exact absurd q (pF_nz (by decide))))) dX10_mustBe_30 (by decide) rfl cw_RX10_272 okX10_goesPast rfl (Nat.le_of_ble_eq_true rfl) ⟨Nat.le_of_ble_eq_true rfl, Nat.le_of_ble_eq_true rfl, Nat.le_of_ble_eq_true rfl, Nat.le_of_ble_eq_true rfl⟩ (fun τ30 hr30 => ?_)
      have hz30 : zOK τ30 := hr30.1
      have e20 := hr30.2.2.2.2.2.1.1
      have hp30 : PM t n (pPrn t n (D 2) (D 1 0) S) τ30 := by
        have q := hr30.2.2
        first
        | (rw [if_neg h17, if_pos z] at q; rw [pPrn_y h4 h17]; exact q)
        | (rw [if_pos h17, if_neg (pF_nz (by decide))] at q; rw [pPrn_3 h4 h17]; exact q)
      refine zx_aloadN dX10_mustBe_33 rfl rfl ?_
      refine zy_getI fl_RX10_243 rfl dX10_mustBe_34 rfl ?_
      refine zx_if_ne (tgt := 44) (by first | exact hz30 _ _ | assumption | exact zr_b _ | exact zcmp_r _ _ | (unfold zr at *; omega)) dX10_mustBe_37 (by decide) (fun h37 => ?_) (fun h37 => ?_)
      · refine zx_iconst dX10_mustBe_44 ?_
        refine zx_iret rfl rfl dX10_mustBe_45 ?_
        rw [hQ]
        refine ⟨congrArg (fun z : Int => (Sum.inl (some (zi z)) : Option zV ⊕ String)) ?_, ?_⟩
        · first
          | (rw [if_neg (fun q => by rw [pPrn_1 (Classical.not_not.mp h4)] at q; exact pF_nz (by decide) q)])
          | (rw [if_neg (fun q => by rw [pPrn_1 h4] at q; exact pF_nz (by decide) q)])
          | (rw [← hp30.2.2.2.1.1]; first | rw [if_pos h37] | rw [if_neg h37])
        first
        | (have c : nmv t n S = 0 := by first | exact h4 | exact Classical.not_not.mp h4
           have q := hr1.2.2
           rw [if_pos c] at q
           rw [pPrn_1 c]
           exact ⟨hz30, hr1.2.1, q.1⟩)
        | exact ⟨hz30, MX_tr hr1.2.1 (MX_tr hr26.2.1 hr30.2.1), hp30⟩
      · refine zx_iloadN dX10_mustBe_40 rfl rfl ?_
        refine zx_goto (tgt := 45) dX10_mustBe_41 (by decide) ?_
        refine zx_iret rfl rfl dX10_mustBe_45 ?_
        rw [hQ]
        refine ⟨congrArg (fun z : Int => (Sum.inl (some (zi z)) : Option zV ⊕ String)) ?_, ?_⟩
        · first
          | (rw [if_neg (fun q => by rw [pPrn_1 (Classical.not_not.mp h4)] at q; exact pF_nz (by decide) q)])
          | (rw [if_neg (fun q => by rw [pPrn_1 h4] at q; exact pF_nz (by decide) q)])
          | (rw [← hp30.2.2.2.1.1]; first | rw [if_pos h37] | rw [if_neg h37])
        first
        | (have c : nmv t n S = 0 := by first | exact h4 | exact Classical.not_not.mp h4
           have q := hr1.2.2
           rw [if_pos c] at q
           rw [pPrn_1 c]
           exact ⟨hz30, hr1.2.1, q.1⟩)
        | exact ⟨hz30, MX_tr hr1.2.1 (MX_tr hr26.2.1 hr30.2.1), hp30⟩
    · refine zx_iconst dX10_mustBe_20 ?_
      refine zx_goto (tgt := 25) dX10_mustBe_21 (by decide) ?_
      refine zy_top (b := zb True) (zb_t trivial).symm ?_
      refine zx_iconst dX10_mustBe_25 ?_
      refine zy_cvvR [zi (zb True), zi 3] (sX10_must (A := True) hfl hz1 hq1 (by omega)) dX10_mustBe_26 (by decide) rfl cw_RX10_252 okX10_must rfl (Nat.le_of_ble_eq_true rfl) ⟨Nat.le_of_ble_eq_true rfl, Nat.le_of_ble_eq_true rfl, Nat.le_of_ble_eq_true rfl, Nat.le_of_ble_eq_true rfl⟩ (fun τ26 hr26 => ?_)
      have hz26 : zOK τ26 := hr26.1
      have hq : PN t n (if fz (D 2) (D 1 0) (nmv t n S) = -1 then pF t n S 3 else S) τ26 := by
        have q := hr26.2.2.1
        first
        | (rw [if_pos trivial] at q; rw [if_neg h17]; exact q)
        | (rw [if_neg (fun r => r)] at q; rw [if_pos h17]; exact q)
      refine zx_aloadN dX10_mustBe_29 rfl rfl ?_
      refine zy_cvvR [] (sX10_goesPast (S := (if fz (D 2) (D 1 0) (nmv t n S) = -1 then pF t n S 3 else S)) hfl hz26 hq (fun q => by first | (rw [if_neg h17]; exact (nmv_w h4).1) | (rw [if_pos h17] at q; exact absurd q (pF_nz (by decide))))) dX10_mustBe_30 (by decide) rfl cw_RX10_272 okX10_goesPast rfl (Nat.le_of_ble_eq_true rfl) ⟨Nat.le_of_ble_eq_true rfl, Nat.le_of_ble_eq_true rfl, Nat.le_of_ble_eq_true rfl, Nat.le_of_ble_eq_true rfl⟩ (fun τ30 hr30 => ?_)
      have hz30 : zOK τ30 := hr30.1
      have e20 := hr30.2.2.2.2.2.1.1
      have hp30 : PM t n (pPrn t n (D 2) (D 1 0) S) τ30 := by
        have q := hr30.2.2
        first
        | (rw [if_neg h17, if_pos z] at q; rw [pPrn_y h4 h17]; exact q)
        | (rw [if_pos h17, if_neg (pF_nz (by decide))] at q; rw [pPrn_3 h4 h17]; exact q)
      refine zx_aloadN dX10_mustBe_33 rfl rfl ?_
      refine zy_getI fl_RX10_243 rfl dX10_mustBe_34 rfl ?_
      refine zx_if_ne (tgt := 44) (by first | exact hz30 _ _ | assumption | exact zr_b _ | exact zcmp_r _ _ | (unfold zr at *; omega)) dX10_mustBe_37 (by decide) (fun h37 => ?_) (fun h37 => ?_)
      · refine zx_iconst dX10_mustBe_44 ?_
        refine zx_iret rfl rfl dX10_mustBe_45 ?_
        rw [hQ]
        refine ⟨congrArg (fun z : Int => (Sum.inl (some (zi z)) : Option zV ⊕ String)) ?_, ?_⟩
        · first
          | (rw [if_neg (fun q => by rw [pPrn_1 (Classical.not_not.mp h4)] at q; exact pF_nz (by decide) q)])
          | (rw [if_neg (fun q => by rw [pPrn_1 h4] at q; exact pF_nz (by decide) q)])
          | (rw [← hp30.2.2.2.1.1]; first | rw [if_pos h37] | rw [if_neg h37])
        first
        | (have c : nmv t n S = 0 := by first | exact h4 | exact Classical.not_not.mp h4
           have q := hr1.2.2
           rw [if_pos c] at q
           rw [pPrn_1 c]
           exact ⟨hz30, hr1.2.1, q.1⟩)
        | exact ⟨hz30, MX_tr hr1.2.1 (MX_tr hr26.2.1 hr30.2.1), hp30⟩
      · refine zx_iloadN dX10_mustBe_40 rfl rfl ?_
        refine zx_goto (tgt := 45) dX10_mustBe_41 (by decide) ?_
        refine zx_iret rfl rfl dX10_mustBe_45 ?_
        rw [hQ]
        refine ⟨congrArg (fun z : Int => (Sum.inl (some (zi z)) : Option zV ⊕ String)) ?_, ?_⟩
        · first
          | (rw [if_neg (fun q => by rw [pPrn_1 (Classical.not_not.mp h4)] at q; exact pF_nz (by decide) q)])
          | (rw [if_neg (fun q => by rw [pPrn_1 h4] at q; exact pF_nz (by decide) q)])
          | (rw [← hp30.2.2.2.1.1]; first | rw [if_pos h37] | rw [if_neg h37])
        first
        | (have c : nmv t n S = 0 := by first | exact h4 | exact Classical.not_not.mp h4
           have q := hr1.2.2
           rw [if_pos c] at q
           rw [pPrn_1 c]
           exact ⟨hz30, hr1.2.1, q.1⟩)
        | exact ⟨hz30, MX_tr hr1.2.1 (MX_tr hr26.2.1 hr30.2.1), hp30⟩
  · have h4 := zb_0.mp h4
    refine zx_iconst dX10_mustBe_7 ?_
    refine zx_iret rfl rfl dX10_mustBe_8 ?_
    rw [hQ]
    refine ⟨congrArg (fun z : Int => (Sum.inl (some (zi z)) : Option zV ⊕ String)) ?_, ?_⟩
    · first
      | (rw [if_neg (fun q => by rw [pPrn_1 (Classical.not_not.mp h4)] at q; exact pF_nz (by decide) q)])
      | (rw [if_neg (fun q => by rw [pPrn_1 h4] at q; exact pF_nz (by decide) q)])
      | (rw [← hp30.2.2.2.1.1]; first | rw [if_pos h37] | rw [if_neg h37])
    first
    | (have c : nmv t n S = 0 := by first | exact h4 | exact Classical.not_not.mp h4
       have q := hr1.2.2
       rw [if_pos c] at q
       rw [pPrn_1 c]
       exact ⟨hz1, hr1.2.1, q.1⟩)
    | exact ⟨hz1, MX_tr hr1.2.1 (MX_tr hr26.2.1 hr30.2.1), hp30⟩
set_option maxRecDepth 20000 in
set_option maxHeartbeats 2000000 in
theorem sX10_starts {l : Launch} {w : zW} (hfl : l.stackTraces = false) {σ : zS} {t : Nat → Int} {n : Nat} {S : zP} {j : Nat} {a b : Int} (hz : zOK σ) (hP : PM t n S σ) (hj1 : 1 ≤ zslen.getD j 0) (ha : zr a) (hb : zr b) : Sp l w mX10_starts 5 0 [zf 10 261, zf 100 j, zi a, zi b] σ (zqv (some (zi (zb ((pW t n S j (a < b)).2.1 = 0)))) (fun τ => zOK τ ∧ MX σ τ ∧ PM t n (pW t n S j (a < b)) τ)) := by
  obtain ⟨Q, hQ⟩ : ∃ Q : zQ, Q = (zqv (some (zi (zb ((pW t n S j (a < b)).2.1 = 0)))) (fun τ => zOK τ ∧ MX σ τ ∧ PM t n (pW t n S j (a < b)) τ)) := ⟨_, rfl⟩
  rw [← hQ]
  refine zx_enter hfl (by decide) rfl 0 rfl ?_
  show zX l w mX10_starts (zMQ w 5 0 Q) 0 [zf 10 261, zf 100 j, zi a, zi b] [] 0 σ
  refine zx_aloadN dX10_starts_0 rfl rfl ?_
  refine zx_aloadN dX10_starts_1 rfl rfl ?_
  refine zx_aloadN dX10_starts_2 rfl rfl ?_
  refine zy_cvR [zf 100 j] (sX10_sees (j := j) hfl hz (by first | assumption | omega) (by first | assumption | omega)) dX10_starts_3 (by decide) rfl cw_RX10_278 okX10_sees rfl (Nat.le_of_ble_eq_true rfl) ⟨Nat.le_of_ble_eq_true rfl, Nat.le_of_ble_eq_true rfl, Nat.le_of_ble_eq_true rfl, Nat.le_of_ble_eq_true rfl⟩ (fun τ3 hr3 => ?_)
  have hz3 : zOK τ3 := hr3.1
  refine zx_iconst dX10_starts_6 ?_
  refine zy_cvvR [zi (zb (S.2.1 = 0 ∧ isW t n S.1 j)), zi 1] (sX10_must (A := (S.2.1 = 0 ∧ isW t n S.1 j)) hfl hz3 hr3.2.2 (by omega)) dX10_starts_7 (by decide) rfl cw_RX10_252 okX10_must rfl (Nat.le_of_ble_eq_true rfl) ⟨Nat.le_of_ble_eq_true rfl, Nat.le_of_ble_eq_true rfl, Nat.le_of_ble_eq_true rfl, Nat.le_of_ble_eq_true rfl⟩ (fun τ7 hr7 => ?_)
  have hz7 : zOK τ7 := hr7.1
  refine zx_aloadN dX10_starts_10 rfl rfl ?_
  refine zx_iloadN dX10_starts_11 rfl rfl ?_
  refine zx_iloadN dX10_starts_12 rfl rfl ?_
  refine zx_icmp_ge (tgt := 20) (by first | exact hz7 _ _ | assumption | exact zr_b _ | exact zcmp_r _ _ | (unfold zr at *; omega)) (by first | exact hz7 _ _ | assumption | exact zr_b _ | exact zcmp_r _ _ | (unfold zr at *; omega)) dX10_starts_13 (by decide) (fun h13 => ?_) (fun h13 => ?_)
  · refine zx_iconst dX10_starts_20 ?_
    refine zy_top (b := zb False) (zb_f (fun q => q)).symm ?_
    refine zx_iconst dX10_starts_21 ?_
    refine zy_cvvR [zi (zb False), zi 4] (sX10_must (S := (@ite zP (S.2.1 = 0 ∧ isW t n S.1 j) (Classical.propDecidable _) S (pF t n S 1))) (A := False) hfl hz7 hr7.2.2.1 (by omega)) dX10_starts_22 (by decide) rfl cw_RX10_252 okX10_must rfl (Nat.le_of_ble_eq_true rfl) ⟨Nat.le_of_ble_eq_true rfl, Nat.le_of_ble_eq_true rfl, Nat.le_of_ble_eq_true rfl, Nat.le_of_ble_eq_true rfl⟩ (fun τ22 hr22 => ?_)
    have hz22 : zOK τ22 := hr22.1
    have hq : PN t n (@ite zP (a < b) (Classical.propDecidable _) (@ite zP (S.2.1 = 0 ∧ isW t n S.1 j) (Classical.propDecidable _) S (pF t n S 1)) (pF t n (@ite zP (S.2.1 = 0 ∧ isW t n S.1 j) (Classical.propDecidable _) S (pF t n S 1)) 4)) τ22 := by
      have q := hr22.2.2.1
      first
      | (rw [if_pos trivial] at q; rw [if_pos (by omega)]; exact q)
      | (rw [if_neg (fun r => r)] at q; rw [if_neg (by omega)]; exact q)
    refine zx_aloadN dX10_starts_25 rfl rfl ?_
    refine zy_cvvR [] (sX10_goesPast (S := (@ite zP (a < b) (Classical.propDecidable _) (@ite zP (S.2.1 = 0 ∧ isW t n S.1 j) (Classical.propDecidable _) S (pF t n S 1)) (pF t n (@ite zP (S.2.1 = 0 ∧ isW t n S.1 j) (Classical.propDecidable _) S (pF t n S 1)) 4))) hfl hz22 hq (pW_k)) dX10_starts_26 (by decide) rfl cw_RX10_272 okX10_goesPast rfl (Nat.le_of_ble_eq_true rfl) ⟨Nat.le_of_ble_eq_true rfl, Nat.le_of_ble_eq_true rfl, Nat.le_of_ble_eq_true rfl, Nat.le_of_ble_eq_true rfl⟩ (fun τ26 hr26 => ?_)
    have hz26 : zOK τ26 := hr26.1
    have hp26 : PM t n (pW t n S j (a < b)) τ26 := by rw [← pW_e]; exact hr26.2.2
    refine zx_aloadN dX10_starts_29 rfl rfl ?_
    refine zy_getI fl_RX10_243 rfl dX10_starts_30 rfl ?_
    refine zx_if_ne (tgt := 40) (by first | exact hz26 _ _ | assumption | exact zr_b _ | exact zcmp_r _ _ | (unfold zr at *; omega)) dX10_starts_33 (by decide) (fun h33 => ?_) (fun h33 => ?_)
    · refine zx_iconst dX10_starts_40 ?_
      refine zx_iret rfl rfl dX10_starts_41 ?_
      rw [hQ]
      refine ⟨congrArg (fun z : Int => (Sum.inl (some (zi z)) : Option zV ⊕ String)) ?_, ?_⟩
      · first | exact (zb_t (hp26.2.2.2.1.1.symm.trans h33)).symm | exact (zb_f (fun q => h33 (hp26.2.2.2.1.1.trans q))).symm
      exact ⟨hz26, MX_tr hr3.2.1 (MX_tr hr7.2.1 (MX_tr hr22.2.1 hr26.2.1)), hp26⟩
    · refine zx_iconst dX10_starts_36 ?_
      refine zx_goto (tgt := 41) dX10_starts_37 (by decide) ?_
      refine zx_iret rfl rfl dX10_starts_41 ?_
      rw [hQ]
      refine ⟨congrArg (fun z : Int => (Sum.inl (some (zi z)) : Option zV ⊕ String)) ?_, ?_⟩
      · first | exact (zb_t (hp26.2.2.2.1.1.symm.trans h33)).symm | exact (zb_f (fun q => h33 (hp26.2.2.2.1.1.trans q))).symm
      exact ⟨hz26, MX_tr hr3.2.1 (MX_tr hr7.2.1 (MX_tr hr22.2.1 hr26.2.1)), hp26⟩
  · refine zx_iconst dX10_starts_16 ?_
    refine zx_goto (tgt := 21) dX10_starts_17 (by decide) ?_
    refine zy_top (b := zb True) (zb_t trivial).symm ?_
    refine zx_iconst dX10_starts_21 ?_
    refine zy_cvvR [zi (zb True), zi 4] (sX10_must (S := (@ite zP (S.2.1 = 0 ∧ isW t n S.1 j) (Classical.propDecidable _) S (pF t n S 1))) (A := True) hfl hz7 hr7.2.2.1 (by omega)) dX10_starts_22 (by decide) rfl cw_RX10_252 okX10_must rfl (Nat.le_of_ble_eq_true rfl) ⟨Nat.le_of_ble_eq_true rfl, Nat.le_of_ble_eq_true rfl, Nat.le_of_ble_eq_true rfl, Nat.le_of_ble_eq_true rfl⟩ (fun τ22 hr22 => ?_)
    have hz22 : zOK τ22 := hr22.1
    have hq : PN t n (@ite zP (a < b) (Classical.propDecidable _) (@ite zP (S.2.1 = 0 ∧ isW t n S.1 j) (Classical.propDecidable _) S (pF t n S 1)) (pF t n (@ite zP (S.2.1 = 0 ∧ isW t n S.1 j) (Classical.propDecidable _) S (pF t n S 1)) 4)) τ22 := by
      have q := hr22.2.2.1
      first
      | (rw [if_pos trivial] at q; rw [if_pos (by omega)]; exact q)
      | (rw [if_neg (fun r => r)] at q; rw [if_neg (by omega)]; exact q)
    refine zx_aloadN dX10_starts_25 rfl rfl ?_
    refine zy_cvvR [] (sX10_goesPast (S := (@ite zP (a < b) (Classical.propDecidable _) (@ite zP (S.2.1 = 0 ∧ isW t n S.1 j) (Classical.propDecidable _) S (pF t n S 1)) (pF t n (@ite zP (S.2.1 = 0 ∧ isW t n S.1 j) (Classical.propDecidable _) S (pF t n S 1)) 4))) hfl hz22 hq (pW_k)) dX10_starts_26 (by decide) rfl cw_RX10_272 okX10_goesPast rfl (Nat.le_of_ble_eq_true rfl) ⟨Nat.le_of_ble_eq_true rfl, Nat.le_of_ble_eq_true rfl, Nat.le_of_ble_eq_true rfl, Nat.le_of_ble_eq_true rfl⟩ (fun τ26 hr26 => ?_)
    have hz26 : zOK τ26 := hr26.1
    have hp26 : PM t n (pW t n S j (a < b)) τ26 := by rw [← pW_e]; exact hr26.2.2
    refine zx_aloadN dX10_starts_29 rfl rfl ?_
    refine zy_getI fl_RX10_243 rfl dX10_starts_30 rfl ?_
    refine zx_if_ne (tgt := 40) (by first | exact hz26 _ _ | assumption | exact zr_b _ | exact zcmp_r _ _ | (unfold zr at *; omega)) dX10_starts_33 (by decide) (fun h33 => ?_) (fun h33 => ?_)
    · refine zx_iconst dX10_starts_40 ?_
      refine zx_iret rfl rfl dX10_starts_41 ?_
      rw [hQ]
      refine ⟨congrArg (fun z : Int => (Sum.inl (some (zi z)) : Option zV ⊕ String)) ?_, ?_⟩
      · first | exact (zb_t (hp26.2.2.2.1.1.symm.trans h33)).symm | exact (zb_f (fun q => h33 (hp26.2.2.2.1.1.trans q))).symm
      exact ⟨hz26, MX_tr hr3.2.1 (MX_tr hr7.2.1 (MX_tr hr22.2.1 hr26.2.1)), hp26⟩
    · refine zx_iconst dX10_starts_36 ?_
      refine zx_goto (tgt := 41) dX10_starts_37 (by decide) ?_
      refine zx_iret rfl rfl dX10_starts_41 ?_
      rw [hQ]
      refine ⟨congrArg (fun z : Int => (Sum.inl (some (zi z)) : Option zV ⊕ String)) ?_, ?_⟩
      · first | exact (zb_t (hp26.2.2.2.1.1.symm.trans h33)).symm | exact (zb_f (fun q => h33 (hp26.2.2.2.1.1.trans q))).symm
      exact ⟨hz26, MX_tr hr3.2.1 (MX_tr hr7.2.1 (MX_tr hr22.2.1 hr26.2.1)), hp26⟩
set_option maxRecDepth 20000 in
set_option maxHeartbeats 2000000 in
theorem sX10_kindHere {l : Launch} {w : zW} (hfl : l.stackTraces = false) {σ : zS} {t : Nat → Int} {n : Nat} {S : zP}  (hz : zOK σ) (hP : PM t n S σ) : Sp l w mX10_kindHere 5 0 [zf 10 261] σ (zqv (some (zi (if S.2.1 = 0 then kdv t n S.1 else 0))) (fun τ => zOK τ ∧ MX σ τ ∧ PM t n (pKd t n S) τ)) := by
  obtain ⟨Q, hQ⟩ : ∃ Q : zQ, Q = (zqv (some (zi (if S.2.1 = 0 then kdv t n S.1 else 0))) (fun τ => zOK τ ∧ MX σ τ ∧ PM t n (pKd t n S) τ)) := ⟨_, rfl⟩
  rw [← hQ]
  refine zx_enter hfl (by decide) rfl 1 rfl ?_
  show zX l w mX10_kindHere (zMQ w 5 0 Q) 0 [zf 10 261, zu] [] 0 σ
  have hkr := kdv_r t n S.1
  refine zx_aloadN dX10_kindHere_0 rfl rfl ?_
  refine zy_getI fl_RX10_243 rfl dX10_kindHere_1 rfl ?_
  refine zx_if_eq (tgt := 9) (by first | exact hz _ _ | assumption | exact zr_b _ | exact zcmp_r _ _ | (unfold zr at *; omega)) dX10_kindHere_4 (by decide) (fun h4 => ?_) (fun h4 => ?_)
  · have z : S.2.1 = 0 := hP.2.2.2.1.1.symm.trans h4
    refine zx_aloadN dX10_kindHere_9 rfl rfl ?_
    refine zx_ldcSw (List.mem_of_getElem? (i := 40) rfl) (by decide) dX10_kindHere_10 ?_
    refine zy_cvR [zf 100 8] (sX10_sees (j := 8) hfl hz hP (by decide)) dX10_kindHere_13 (by decide) rfl cw_RX10_278 okX10_sees rfl (Nat.le_of_ble_eq_true rfl) ⟨Nat.le_of_ble_eq_true rfl, Nat.le_of_ble_eq_true rfl, Nat.le_of_ble_eq_true rfl, Nat.le_of_ble_eq_true rfl⟩ (fun τ13 hr13 => ?_)
    have hz13 : zOK τ13 := hr13.1
    have mL := hr13.2.1
    have nL := hr13.2.2
    refine zx_if_eq (tgt := 23) (by first | exact hz13 _ _ | assumption | exact zr_b _ | exact zcmp_r _ _ | (unfold zr at *; omega)) dX10_kindHere_16 (by decide) (fun h16 => ?_) (fun h16 => ?_)
    · have h16 := zb_0.mp h16
      refine zx_aloadN dX10_kindHere_23 rfl rfl ?_
      refine zx_ldcSw (List.mem_of_getElem? (i := 41) rfl) (by decide) dX10_kindHere_24 ?_
      refine zy_cvR [zf 100 9] (sX10_sees (j := 9) hfl hz13 hr13.2.2.1 (by decide)) dX10_kindHere_27 (by decide) rfl cw_RX10_278 okX10_sees rfl (Nat.le_of_ble_eq_true rfl) ⟨Nat.le_of_ble_eq_true rfl, Nat.le_of_ble_eq_true rfl, Nat.le_of_ble_eq_true rfl, Nat.le_of_ble_eq_true rfl⟩ (fun τ27 hr27 => ?_)
      have hz27 : zOK τ27 := hr27.1
      have mL := MX_tr mL hr27.2.1
      have nL := hr27.2.2
      refine zx_if_eq (tgt := 37) (by first | exact hz27 _ _ | assumption | exact zr_b _ | exact zcmp_r _ _ | (unfold zr at *; omega)) dX10_kindHere_30 (by decide) (fun h30 => ?_) (fun h30 => ?_)
      · have h30 := zb_0.mp h30
        refine zx_aloadN dX10_kindHere_37 rfl rfl ?_
        refine zx_ldcSw (List.mem_of_getElem? (i := 42) rfl) (by decide) dX10_kindHere_38 ?_
        refine zy_cvR [zf 100 10] (sX10_sees (j := 10) hfl hz27 hr27.2.2.1 (by decide)) dX10_kindHere_41 (by decide) rfl cw_RX10_278 okX10_sees rfl (Nat.le_of_ble_eq_true rfl) ⟨Nat.le_of_ble_eq_true rfl, Nat.le_of_ble_eq_true rfl, Nat.le_of_ble_eq_true rfl, Nat.le_of_ble_eq_true rfl⟩ (fun τ41 hr41 => ?_)
        have hz41 : zOK τ41 := hr41.1
        have mL := MX_tr mL hr41.2.1
        have nL := hr41.2.2
        refine zx_if_eq (tgt := 51) (by first | exact hz41 _ _ | assumption | exact zr_b _ | exact zcmp_r _ _ | (unfold zr at *; omega)) dX10_kindHere_44 (by decide) (fun h44 => ?_) (fun h44 => ?_)
        · have h44 := zb_0.mp h44
          refine zx_aloadN dX10_kindHere_51 rfl rfl ?_
          refine zx_ldcSw (List.mem_of_getElem? (i := 45) rfl) (by decide) dX10_kindHere_52 ?_
          refine zy_cvR [zf 100 13] (sX10_sees (j := 13) hfl hz41 hr41.2.2.1 (by decide)) dX10_kindHere_55 (by decide) rfl cw_RX10_278 okX10_sees rfl (Nat.le_of_ble_eq_true rfl) ⟨Nat.le_of_ble_eq_true rfl, Nat.le_of_ble_eq_true rfl, Nat.le_of_ble_eq_true rfl, Nat.le_of_ble_eq_true rfl⟩ (fun τ55 hr55 => ?_)
          have hz55 : zOK τ55 := hr55.1
          have mL := MX_tr mL hr55.2.1
          have nL := hr55.2.2
          refine zx_if_eq (tgt := 65) (by first | exact hz55 _ _ | assumption | exact zr_b _ | exact zcmp_r _ _ | (unfold zr at *; omega)) dX10_kindHere_58 (by decide) (fun h58 => ?_) (fun h58 => ?_)
          · have h58 := zb_0.mp h58
            refine zx_aloadN dX10_kindHere_65 rfl rfl ?_
            refine zx_ldcSw (List.mem_of_getElem? (i := 46) rfl) (by decide) dX10_kindHere_66 ?_
            refine zy_cvR [zf 100 14] (sX10_sees (j := 14) hfl hz55 hr55.2.2.1 (by decide)) dX10_kindHere_69 (by decide) rfl cw_RX10_278 okX10_sees rfl (Nat.le_of_ble_eq_true rfl) ⟨Nat.le_of_ble_eq_true rfl, Nat.le_of_ble_eq_true rfl, Nat.le_of_ble_eq_true rfl, Nat.le_of_ble_eq_true rfl⟩ (fun τ69 hr69 => ?_)
            have hz69 : zOK τ69 := hr69.1
            have mL := MX_tr mL hr69.2.1
            have nL := hr69.2.2
            refine zx_if_eq (tgt := 79) (by first | exact hz69 _ _ | assumption | exact zr_b _ | exact zcmp_r _ _ | (unfold zr at *; omega)) dX10_kindHere_72 (by decide) (fun h72 => ?_) (fun h72 => ?_)
            · have h72 := zb_0.mp h72
              refine zx_iconst dX10_kindHere_79 ?_
              refine zy_top (b := kdv t n S.1) (by exact (kdv_n (fun q => h16 ⟨z, q⟩) (fun q => h30 ⟨z, q⟩) (fun q => h44 ⟨z, q⟩) (fun q => h58 ⟨z, q⟩) (fun q => h72 ⟨z, q⟩)).symm) ?_
              refine zy_istoreN [zf 10 261, zi (kdv t n S.1)] dX10_kindHere_80 rfl (Nat.le_of_ble_eq_true rfl) (Nat.le_of_ble_eq_true rfl) rfl rfl ?_
              refine zx_aloadN dX10_kindHere_81 rfl rfl ?_
              refine zx_iloadN dX10_kindHere_82 rfl rfl ?_
              refine zx_iconst dX10_kindHere_83 ?_
              refine zx_icmp_eq (tgt := 91) (by first | exact hz69 _ _ | assumption | exact zr_b _ | exact zcmp_r _ _ | (unfold zr at *; omega)) (by first | exact hz69 _ _ | assumption | exact zr_b _ | exact zcmp_r _ _ | (unfold zr at *; omega)) dX10_kindHere_84 (by decide) (fun h84 => ?_) (fun h84 => ?_)
              · refine zx_iconst dX10_kindHere_91 ?_
                refine zy_top (b := zb False) (zb_f (fun q => q)).symm ?_
                refine zx_iconst dX10_kindHere_92 ?_
                refine zy_cvvR [zi (zb False), zi 1] (sX10_must (A := False) hfl hz69 nL (by omega)) dX10_kindHere_93 (by decide) rfl cw_RX10_252 okX10_must rfl (Nat.le_of_ble_eq_true rfl) ⟨Nat.le_of_ble_eq_true rfl, Nat.le_of_ble_eq_true rfl, Nat.le_of_ble_eq_true rfl, Nat.le_of_ble_eq_true rfl⟩ (fun τ93 hr93 => ?_)
                have hz93 : zOK τ93 := hr93.1
                have hq : PN t n (if kdv t n S.1 = -1 then pF t n S 1 else S) τ93 := by
                  have q := hr93.2.2.1
                  first
                  | (rw [if_pos trivial] at q; rw [if_neg h84]; exact q)
                  | (rw [if_neg (fun r => r)] at q; rw [if_pos h84]; exact q)
                refine zx_aloadN dX10_kindHere_96 rfl rfl ?_
                refine zy_cvvR [] (sX10_goesPast (S := (if kdv t n S.1 = -1 then pF t n S 1 else S)) hfl hz93 hq (fun q => by first | (rw [if_neg h84]; exact kdv_w h84) | (rw [if_pos h84] at q; exact absurd q (pF_nz (by decide))))) dX10_kindHere_97 (by decide) rfl cw_RX10_272 okX10_goesPast rfl (Nat.le_of_ble_eq_true rfl) ⟨Nat.le_of_ble_eq_true rfl, Nat.le_of_ble_eq_true rfl, Nat.le_of_ble_eq_true rfl, Nat.le_of_ble_eq_true rfl⟩ (fun τ97 hr97 => ?_)
                have hz97 : zOK τ97 := hr97.1
                have hp97 : PM t n (pKd t n S) τ97 := by
                  have q := hr97.2.2
                  first
                  | (rw [if_neg h84, if_pos z] at q; rw [pKd_y z h84]; exact q)
                  | (rw [if_pos h84, if_neg (pF_nz (by decide))] at q; rw [pKd_n (fun _ => h84)]; exact q)
                refine zx_iloadN dX10_kindHere_100 rfl rfl ?_
                refine zx_iret rfl rfl dX10_kindHere_101 ?_
                rw [hQ]
                refine ⟨congrArg (fun z : Int => (Sum.inl (some (zi z)) : Option zV ⊕ String)) ?_, ?_⟩
                · first | (rw [if_pos z]) | (rw [if_neg (fun q => h4 (hP.2.2.2.1.1.trans q))])
                first
                | exact ⟨hz97, MX_tr mL (MX_tr hr93.2.1 hr97.2.1), hp97⟩
                | (have hz4 : ¬ S.2.1 = 0 := fun q => h4 (hP.2.2.2.1.1.trans q)
                   rw [pKd_n (fun q => absurd q hz4), pF_n hz4]
                   exact ⟨hz97, MX_rf _, hP⟩)
              · refine zx_iconst dX10_kindHere_87 ?_
                refine zx_goto (tgt := 92) dX10_kindHere_88 (by decide) ?_
                refine zy_top (b := zb True) (zb_t trivial).symm ?_
                refine zx_iconst dX10_kindHere_92 ?_
                refine zy_cvvR [zi (zb True), zi 1] (sX10_must (A := True) hfl hz69 nL (by omega)) dX10_kindHere_93 (by decide) rfl cw_RX10_252 okX10_must rfl (Nat.le_of_ble_eq_true rfl) ⟨Nat.le_of_ble_eq_true rfl, Nat.le_of_ble_eq_true rfl, Nat.le_of_ble_eq_true rfl, Nat.le_of_ble_eq_true rfl⟩ (fun τ93 hr93 => ?_)
                have hz93 : zOK τ93 := hr93.1
                have hq : PN t n (if kdv t n S.1 = -1 then pF t n S 1 else S) τ93 := by
                  have q := hr93.2.2.1
                  first
                  | (rw [if_pos trivial] at q; rw [if_neg h84]; exact q)
                  | (rw [if_neg (fun r => r)] at q; rw [if_pos h84]; exact q)
                refine zx_aloadN dX10_kindHere_96 rfl rfl ?_
                refine zy_cvvR [] (sX10_goesPast (S := (if kdv t n S.1 = -1 then pF t n S 1 else S)) hfl hz93 hq (fun q => by first | (rw [if_neg h84]; exact kdv_w h84) | (rw [if_pos h84] at q; exact absurd q (pF_nz (by decide))))) dX10_kindHere_97 (by decide) rfl cw_RX10_272 okX10_goesPast rfl (Nat.le_of_ble_eq_true rfl) ⟨Nat.le_of_ble_eq_true rfl, Nat.le_of_ble_eq_true rfl, Nat.le_of_ble_eq_true rfl, Nat.le_of_ble_eq_true rfl⟩ (fun τ97 hr97 => ?_)
                have hz97 : zOK τ97 := hr97.1
                have hp97 : PM t n (pKd t n S) τ97 := by
                  have q := hr97.2.2
                  first
                  | (rw [if_neg h84, if_pos z] at q; rw [pKd_y z h84]; exact q)
                  | (rw [if_pos h84, if_neg (pF_nz (by decide))] at q; rw [pKd_n (fun _ => h84)]; exact q)
                refine zx_iloadN dX10_kindHere_100 rfl rfl ?_
                refine zx_iret rfl rfl dX10_kindHere_101 ?_
                rw [hQ]
                refine ⟨congrArg (fun z : Int => (Sum.inl (some (zi z)) : Option zV ⊕ String)) ?_, ?_⟩
                · first | (rw [if_pos z]) | (rw [if_neg (fun q => h4 (hP.2.2.2.1.1.trans q))])
                first
                | exact ⟨hz97, MX_tr mL (MX_tr hr93.2.1 hr97.2.1), hp97⟩
                | (have hz4 : ¬ S.2.1 = 0 := fun q => h4 (hP.2.2.2.1.1.trans q)
                   rw [pKd_n (fun q => absurd q hz4), pF_n hz4]
                   exact ⟨hz97, MX_rf _, hP⟩)
            · have h72 := zb_n.mp h72
              refine zx_iconst dX10_kindHere_75 ?_
              refine zx_goto (tgt := 80) dX10_kindHere_76 (by decide) ?_
              refine zy_top (b := kdv t n S.1) (by exact (kdv_4 (fun q => h16 ⟨z, q⟩) (fun q => h30 ⟨z, q⟩) (fun q => h44 ⟨z, q⟩) (fun q => h58 ⟨z, q⟩) h72.2).symm) ?_
              refine zy_istoreN [zf 10 261, zi (kdv t n S.1)] dX10_kindHere_80 rfl (Nat.le_of_ble_eq_true rfl) (Nat.le_of_ble_eq_true rfl) rfl rfl ?_
              refine zx_aloadN dX10_kindHere_81 rfl rfl ?_
              refine zx_iloadN dX10_kindHere_82 rfl rfl ?_
              refine zx_iconst dX10_kindHere_83 ?_
              refine zx_icmp_eq (tgt := 91) (by first | exact hz69 _ _ | assumption | exact zr_b _ | exact zcmp_r _ _ | (unfold zr at *; omega)) (by first | exact hz69 _ _ | assumption | exact zr_b _ | exact zcmp_r _ _ | (unfold zr at *; omega)) dX10_kindHere_84 (by decide) (fun h84 => ?_) (fun h84 => ?_)
              · refine zx_iconst dX10_kindHere_91 ?_
                refine zy_top (b := zb False) (zb_f (fun q => q)).symm ?_
                refine zx_iconst dX10_kindHere_92 ?_
                refine zy_cvvR [zi (zb False), zi 1] (sX10_must (A := False) hfl hz69 nL (by omega)) dX10_kindHere_93 (by decide) rfl cw_RX10_252 okX10_must rfl (Nat.le_of_ble_eq_true rfl) ⟨Nat.le_of_ble_eq_true rfl, Nat.le_of_ble_eq_true rfl, Nat.le_of_ble_eq_true rfl, Nat.le_of_ble_eq_true rfl⟩ (fun τ93 hr93 => ?_)
                have hz93 : zOK τ93 := hr93.1
                have hq : PN t n (if kdv t n S.1 = -1 then pF t n S 1 else S) τ93 := by
                  have q := hr93.2.2.1
                  first
                  | (rw [if_pos trivial] at q; rw [if_neg h84]; exact q)
                  | (rw [if_neg (fun r => r)] at q; rw [if_pos h84]; exact q)
                refine zx_aloadN dX10_kindHere_96 rfl rfl ?_
                refine zy_cvvR [] (sX10_goesPast (S := (if kdv t n S.1 = -1 then pF t n S 1 else S)) hfl hz93 hq (fun q => by first | (rw [if_neg h84]; exact kdv_w h84) | (rw [if_pos h84] at q; exact absurd q (pF_nz (by decide))))) dX10_kindHere_97 (by decide) rfl cw_RX10_272 okX10_goesPast rfl (Nat.le_of_ble_eq_true rfl) ⟨Nat.le_of_ble_eq_true rfl, Nat.le_of_ble_eq_true rfl, Nat.le_of_ble_eq_true rfl, Nat.le_of_ble_eq_true rfl⟩ (fun τ97 hr97 => ?_)
                have hz97 : zOK τ97 := hr97.1
                have hp97 : PM t n (pKd t n S) τ97 := by
                  have q := hr97.2.2
                  first
                  | (rw [if_neg h84, if_pos z] at q; rw [pKd_y z h84]; exact q)
                  | (rw [if_pos h84, if_neg (pF_nz (by decide))] at q; rw [pKd_n (fun _ => h84)]; exact q)
                refine zx_iloadN dX10_kindHere_100 rfl rfl ?_
                refine zx_iret rfl rfl dX10_kindHere_101 ?_
                rw [hQ]
                refine ⟨congrArg (fun z : Int => (Sum.inl (some (zi z)) : Option zV ⊕ String)) ?_, ?_⟩
                · first | (rw [if_pos z]) | (rw [if_neg (fun q => h4 (hP.2.2.2.1.1.trans q))])
                first
                | exact ⟨hz97, MX_tr mL (MX_tr hr93.2.1 hr97.2.1), hp97⟩
                | (have hz4 : ¬ S.2.1 = 0 := fun q => h4 (hP.2.2.2.1.1.trans q)
                   rw [pKd_n (fun q => absurd q hz4), pF_n hz4]
                   exact ⟨hz97, MX_rf _, hP⟩)
              · refine zx_iconst dX10_kindHere_87 ?_
                refine zx_goto (tgt := 92) dX10_kindHere_88 (by decide) ?_
                refine zy_top (b := zb True) (zb_t trivial).symm ?_
                refine zx_iconst dX10_kindHere_92 ?_
                refine zy_cvvR [zi (zb True), zi 1] (sX10_must (A := True) hfl hz69 nL (by omega)) dX10_kindHere_93 (by decide) rfl cw_RX10_252 okX10_must rfl (Nat.le_of_ble_eq_true rfl) ⟨Nat.le_of_ble_eq_true rfl, Nat.le_of_ble_eq_true rfl, Nat.le_of_ble_eq_true rfl, Nat.le_of_ble_eq_true rfl⟩ (fun τ93 hr93 => ?_)
                have hz93 : zOK τ93 := hr93.1
                have hq : PN t n (if kdv t n S.1 = -1 then pF t n S 1 else S) τ93 := by
                  have q := hr93.2.2.1
                  first
                  | (rw [if_pos trivial] at q; rw [if_neg h84]; exact q)
                  | (rw [if_neg (fun r => r)] at q; rw [if_pos h84]; exact q)
                refine zx_aloadN dX10_kindHere_96 rfl rfl ?_
                refine zy_cvvR [] (sX10_goesPast (S := (if kdv t n S.1 = -1 then pF t n S 1 else S)) hfl hz93 hq (fun q => by first | (rw [if_neg h84]; exact kdv_w h84) | (rw [if_pos h84] at q; exact absurd q (pF_nz (by decide))))) dX10_kindHere_97 (by decide) rfl cw_RX10_272 okX10_goesPast rfl (Nat.le_of_ble_eq_true rfl) ⟨Nat.le_of_ble_eq_true rfl, Nat.le_of_ble_eq_true rfl, Nat.le_of_ble_eq_true rfl, Nat.le_of_ble_eq_true rfl⟩ (fun τ97 hr97 => ?_)
                have hz97 : zOK τ97 := hr97.1
                have hp97 : PM t n (pKd t n S) τ97 := by
                  have q := hr97.2.2
                  first
                  | (rw [if_neg h84, if_pos z] at q; rw [pKd_y z h84]; exact q)
                  | (rw [if_pos h84, if_neg (pF_nz (by decide))] at q; rw [pKd_n (fun _ => h84)]; exact q)
                refine zx_iloadN dX10_kindHere_100 rfl rfl ?_
                refine zx_iret rfl rfl dX10_kindHere_101 ?_
                rw [hQ]
                refine ⟨congrArg (fun z : Int => (Sum.inl (some (zi z)) : Option zV ⊕ String)) ?_, ?_⟩
                · first | (rw [if_pos z]) | (rw [if_neg (fun q => h4 (hP.2.2.2.1.1.trans q))])
                first
                | exact ⟨hz97, MX_tr mL (MX_tr hr93.2.1 hr97.2.1), hp97⟩
                | (have hz4 : ¬ S.2.1 = 0 := fun q => h4 (hP.2.2.2.1.1.trans q)
                   rw [pKd_n (fun q => absurd q hz4), pF_n hz4]
                   exact ⟨hz97, MX_rf _, hP⟩)
          · have h58 := zb_n.mp h58
            refine zx_iconst dX10_kindHere_61 ?_
            refine zx_goto (tgt := 80) dX10_kindHere_62 (by decide) ?_
            refine zy_top (b := kdv t n S.1) (by exact (kdv_3 (fun q => h16 ⟨z, q⟩) (fun q => h30 ⟨z, q⟩) (fun q => h44 ⟨z, q⟩) h58.2).symm) ?_
            refine zy_istoreN [zf 10 261, zi (kdv t n S.1)] dX10_kindHere_80 rfl (Nat.le_of_ble_eq_true rfl) (Nat.le_of_ble_eq_true rfl) rfl rfl ?_
            refine zx_aloadN dX10_kindHere_81 rfl rfl ?_
            refine zx_iloadN dX10_kindHere_82 rfl rfl ?_
            refine zx_iconst dX10_kindHere_83 ?_
            refine zx_icmp_eq (tgt := 91) (by first | exact hz55 _ _ | assumption | exact zr_b _ | exact zcmp_r _ _ | (unfold zr at *; omega)) (by first | exact hz55 _ _ | assumption | exact zr_b _ | exact zcmp_r _ _ | (unfold zr at *; omega)) dX10_kindHere_84 (by decide) (fun h84 => ?_) (fun h84 => ?_)
            · refine zx_iconst dX10_kindHere_91 ?_
              refine zy_top (b := zb False) (zb_f (fun q => q)).symm ?_
              refine zx_iconst dX10_kindHere_92 ?_
              refine zy_cvvR [zi (zb False), zi 1] (sX10_must (A := False) hfl hz55 nL (by omega)) dX10_kindHere_93 (by decide) rfl cw_RX10_252 okX10_must rfl (Nat.le_of_ble_eq_true rfl) ⟨Nat.le_of_ble_eq_true rfl, Nat.le_of_ble_eq_true rfl, Nat.le_of_ble_eq_true rfl, Nat.le_of_ble_eq_true rfl⟩ (fun τ93 hr93 => ?_)
              have hz93 : zOK τ93 := hr93.1
              have hq : PN t n (if kdv t n S.1 = -1 then pF t n S 1 else S) τ93 := by
                have q := hr93.2.2.1
                first
                | (rw [if_pos trivial] at q; rw [if_neg h84]; exact q)
                | (rw [if_neg (fun r => r)] at q; rw [if_pos h84]; exact q)
              refine zx_aloadN dX10_kindHere_96 rfl rfl ?_
              refine zy_cvvR [] (sX10_goesPast (S := (if kdv t n S.1 = -1 then pF t n S 1 else S)) hfl hz93 hq (fun q => by first | (rw [if_neg h84]; exact kdv_w h84) | (rw [if_pos h84] at q; exact absurd q (pF_nz (by decide))))) dX10_kindHere_97 (by decide) rfl cw_RX10_272 okX10_goesPast rfl (Nat.le_of_ble_eq_true rfl) ⟨Nat.le_of_ble_eq_true rfl, Nat.le_of_ble_eq_true rfl, Nat.le_of_ble_eq_true rfl, Nat.le_of_ble_eq_true rfl⟩ (fun τ97 hr97 => ?_)
              have hz97 : zOK τ97 := hr97.1
              have hp97 : PM t n (pKd t n S) τ97 := by
                have q := hr97.2.2
                first
                | (rw [if_neg h84, if_pos z] at q; rw [pKd_y z h84]; exact q)
                | (rw [if_pos h84, if_neg (pF_nz (by decide))] at q; rw [pKd_n (fun _ => h84)]; exact q)
              refine zx_iloadN dX10_kindHere_100 rfl rfl ?_
              refine zx_iret rfl rfl dX10_kindHere_101 ?_
              rw [hQ]
              refine ⟨congrArg (fun z : Int => (Sum.inl (some (zi z)) : Option zV ⊕ String)) ?_, ?_⟩
              · first | (rw [if_pos z]) | (rw [if_neg (fun q => h4 (hP.2.2.2.1.1.trans q))])
              first
              | exact ⟨hz97, MX_tr mL (MX_tr hr93.2.1 hr97.2.1), hp97⟩
              | (have hz4 : ¬ S.2.1 = 0 := fun q => h4 (hP.2.2.2.1.1.trans q)
                 rw [pKd_n (fun q => absurd q hz4), pF_n hz4]
                 exact ⟨hz97, MX_rf _, hP⟩)
            · refine zx_iconst dX10_kindHere_87 ?_
              refine zx_goto (tgt := 92) dX10_kindHere_88 (by decide) ?_
              refine zy_top (b := zb True) (zb_t trivial).symm ?_
              refine zx_iconst dX10_kindHere_92 ?_
              refine zy_cvvR [zi (zb True), zi 1] (sX10_must (A := True) hfl hz55 nL (by omega)) dX10_kindHere_93 (by decide) rfl cw_RX10_252 okX10_must rfl (Nat.le_of_ble_eq_true rfl) ⟨Nat.le_of_ble_eq_true rfl, Nat.le_of_ble_eq_true rfl, Nat.le_of_ble_eq_true rfl, Nat.le_of_ble_eq_true rfl⟩ (fun τ93 hr93 => ?_)
              have hz93 : zOK τ93 := hr93.1
              have hq : PN t n (if kdv t n S.1 = -1 then pF t n S 1 else S) τ93 := by
                have q := hr93.2.2.1
                first
                | (rw [if_pos trivial] at q; rw [if_neg h84]; exact q)
                | (rw [if_neg (fun r => r)] at q; rw [if_pos h84]; exact q)
              refine zx_aloadN dX10_kindHere_96 rfl rfl ?_
              refine zy_cvvR [] (sX10_goesPast (S := (if kdv t n S.1 = -1 then pF t n S 1 else S)) hfl hz93 hq (fun q => by first | (rw [if_neg h84]; exact kdv_w h84) | (rw [if_pos h84] at q; exact absurd q (pF_nz (by decide))))) dX10_kindHere_97 (by decide) rfl cw_RX10_272 okX10_goesPast rfl (Nat.le_of_ble_eq_true rfl) ⟨Nat.le_of_ble_eq_true rfl, Nat.le_of_ble_eq_true rfl, Nat.le_of_ble_eq_true rfl, Nat.le_of_ble_eq_true rfl⟩ (fun τ97 hr97 => ?_)
              have hz97 : zOK τ97 := hr97.1
              have hp97 : PM t n (pKd t n S) τ97 := by
                have q := hr97.2.2
                first
                | (rw [if_neg h84, if_pos z] at q; rw [pKd_y z h84]; exact q)
                | (rw [if_pos h84, if_neg (pF_nz (by decide))] at q; rw [pKd_n (fun _ => h84)]; exact q)
              refine zx_iloadN dX10_kindHere_100 rfl rfl ?_
              refine zx_iret rfl rfl dX10_kindHere_101 ?_
              rw [hQ]
              refine ⟨congrArg (fun z : Int => (Sum.inl (some (zi z)) : Option zV ⊕ String)) ?_, ?_⟩
              · first | (rw [if_pos z]) | (rw [if_neg (fun q => h4 (hP.2.2.2.1.1.trans q))])
              first
              | exact ⟨hz97, MX_tr mL (MX_tr hr93.2.1 hr97.2.1), hp97⟩
              | (have hz4 : ¬ S.2.1 = 0 := fun q => h4 (hP.2.2.2.1.1.trans q)
                 rw [pKd_n (fun q => absurd q hz4), pF_n hz4]
                 exact ⟨hz97, MX_rf _, hP⟩)
        · have h44 := zb_n.mp h44
          refine zx_iconst dX10_kindHere_47 ?_
          refine zx_goto (tgt := 80) dX10_kindHere_48 (by decide) ?_
          refine zy_top (b := kdv t n S.1) (by exact (kdv_2 (fun q => h16 ⟨z, q⟩) (fun q => h30 ⟨z, q⟩) h44.2).symm) ?_
          refine zy_istoreN [zf 10 261, zi (kdv t n S.1)] dX10_kindHere_80 rfl (Nat.le_of_ble_eq_true rfl) (Nat.le_of_ble_eq_true rfl) rfl rfl ?_
          refine zx_aloadN dX10_kindHere_81 rfl rfl ?_
          refine zx_iloadN dX10_kindHere_82 rfl rfl ?_
          refine zx_iconst dX10_kindHere_83 ?_
          refine zx_icmp_eq (tgt := 91) (by first | exact hz41 _ _ | assumption | exact zr_b _ | exact zcmp_r _ _ | (unfold zr at *; omega)) (by first | exact hz41 _ _ | assumption | exact zr_b _ | exact zcmp_r _ _ | (unfold zr at *; omega)) dX10_kindHere_84 (by decide) (fun h84 => ?_) (fun h84 => ?_)
          · refine zx_iconst dX10_kindHere_91 ?_
            refine zy_top (b := zb False) (zb_f (fun q => q)).symm ?_
            refine zx_iconst dX10_kindHere_92 ?_
            refine zy_cvvR [zi (zb False), zi 1] (sX10_must (A := False) hfl hz41 nL (by omega)) dX10_kindHere_93 (by decide) rfl cw_RX10_252 okX10_must rfl (Nat.le_of_ble_eq_true rfl) ⟨Nat.le_of_ble_eq_true rfl, Nat.le_of_ble_eq_true rfl, Nat.le_of_ble_eq_true rfl, Nat.le_of_ble_eq_true rfl⟩ (fun τ93 hr93 => ?_)
            have hz93 : zOK τ93 := hr93.1
            have hq : PN t n (if kdv t n S.1 = -1 then pF t n S 1 else S) τ93 := by
              have q := hr93.2.2.1
              first
              | (rw [if_pos trivial] at q; rw [if_neg h84]; exact q)
              | (rw [if_neg (fun r => r)] at q; rw [if_pos h84]; exact q)
            refine zx_aloadN dX10_kindHere_96 rfl rfl ?_
            refine zy_cvvR [] (sX10_goesPast (S := (if kdv t n S.1 = -1 then pF t n S 1 else S)) hfl hz93 hq (fun q => by first | (rw [if_neg h84]; exact kdv_w h84) | (rw [if_pos h84] at q; exact absurd q (pF_nz (by decide))))) dX10_kindHere_97 (by decide) rfl cw_RX10_272 okX10_goesPast rfl (Nat.le_of_ble_eq_true rfl) ⟨Nat.le_of_ble_eq_true rfl, Nat.le_of_ble_eq_true rfl, Nat.le_of_ble_eq_true rfl, Nat.le_of_ble_eq_true rfl⟩ (fun τ97 hr97 => ?_)
            have hz97 : zOK τ97 := hr97.1
            have hp97 : PM t n (pKd t n S) τ97 := by
              have q := hr97.2.2
              first
              | (rw [if_neg h84, if_pos z] at q; rw [pKd_y z h84]; exact q)
              | (rw [if_pos h84, if_neg (pF_nz (by decide))] at q; rw [pKd_n (fun _ => h84)]; exact q)
            refine zx_iloadN dX10_kindHere_100 rfl rfl ?_
            refine zx_iret rfl rfl dX10_kindHere_101 ?_
            rw [hQ]
            refine ⟨congrArg (fun z : Int => (Sum.inl (some (zi z)) : Option zV ⊕ String)) ?_, ?_⟩
            · first | (rw [if_pos z]) | (rw [if_neg (fun q => h4 (hP.2.2.2.1.1.trans q))])
            first
            | exact ⟨hz97, MX_tr mL (MX_tr hr93.2.1 hr97.2.1), hp97⟩
            | (have hz4 : ¬ S.2.1 = 0 := fun q => h4 (hP.2.2.2.1.1.trans q)
               rw [pKd_n (fun q => absurd q hz4), pF_n hz4]
               exact ⟨hz97, MX_rf _, hP⟩)
          · refine zx_iconst dX10_kindHere_87 ?_
            refine zx_goto (tgt := 92) dX10_kindHere_88 (by decide) ?_
            refine zy_top (b := zb True) (zb_t trivial).symm ?_
            refine zx_iconst dX10_kindHere_92 ?_
            refine zy_cvvR [zi (zb True), zi 1] (sX10_must (A := True) hfl hz41 nL (by omega)) dX10_kindHere_93 (by decide) rfl cw_RX10_252 okX10_must rfl (Nat.le_of_ble_eq_true rfl) ⟨Nat.le_of_ble_eq_true rfl, Nat.le_of_ble_eq_true rfl, Nat.le_of_ble_eq_true rfl, Nat.le_of_ble_eq_true rfl⟩ (fun τ93 hr93 => ?_)
            have hz93 : zOK τ93 := hr93.1
            have hq : PN t n (if kdv t n S.1 = -1 then pF t n S 1 else S) τ93 := by
              have q := hr93.2.2.1
              first
              | (rw [if_pos trivial] at q; rw [if_neg h84]; exact q)
              | (rw [if_neg (fun r => r)] at q; rw [if_pos h84]; exact q)
            refine zx_aloadN dX10_kindHere_96 rfl rfl ?_
            refine zy_cvvR [] (sX10_goesPast (S := (if kdv t n S.1 = -1 then pF t n S 1 else S)) hfl hz93 hq (fun q => by first | (rw [if_neg h84]; exact kdv_w h84) | (rw [if_pos h84] at q; exact absurd q (pF_nz (by decide))))) dX10_kindHere_97 (by decide) rfl cw_RX10_272 okX10_goesPast rfl (Nat.le_of_ble_eq_true rfl) ⟨Nat.le_of_ble_eq_true rfl, Nat.le_of_ble_eq_true rfl, Nat.le_of_ble_eq_true rfl, Nat.le_of_ble_eq_true rfl⟩ (fun τ97 hr97 => ?_)
            have hz97 : zOK τ97 := hr97.1
            have hp97 : PM t n (pKd t n S) τ97 := by
              have q := hr97.2.2
              first
              | (rw [if_neg h84, if_pos z] at q; rw [pKd_y z h84]; exact q)
              | (rw [if_pos h84, if_neg (pF_nz (by decide))] at q; rw [pKd_n (fun _ => h84)]; exact q)
            refine zx_iloadN dX10_kindHere_100 rfl rfl ?_
            refine zx_iret rfl rfl dX10_kindHere_101 ?_
            rw [hQ]
            refine ⟨congrArg (fun z : Int => (Sum.inl (some (zi z)) : Option zV ⊕ String)) ?_, ?_⟩
            · first | (rw [if_pos z]) | (rw [if_neg (fun q => h4 (hP.2.2.2.1.1.trans q))])
            first
            | exact ⟨hz97, MX_tr mL (MX_tr hr93.2.1 hr97.2.1), hp97⟩
            | (have hz4 : ¬ S.2.1 = 0 := fun q => h4 (hP.2.2.2.1.1.trans q)
               rw [pKd_n (fun q => absurd q hz4), pF_n hz4]
               exact ⟨hz97, MX_rf _, hP⟩)
      · have h30 := zb_n.mp h30
        refine zx_iconst dX10_kindHere_33 ?_
        refine zx_goto (tgt := 80) dX10_kindHere_34 (by decide) ?_
        refine zy_top (b := kdv t n S.1) (by exact (kdv_1 (fun q => h16 ⟨z, q⟩) h30.2).symm) ?_
        refine zy_istoreN [zf 10 261, zi (kdv t n S.1)] dX10_kindHere_80 rfl (Nat.le_of_ble_eq_true rfl) (Nat.le_of_ble_eq_true rfl) rfl rfl ?_
        refine zx_aloadN dX10_kindHere_81 rfl rfl ?_
        refine zx_iloadN dX10_kindHere_82 rfl rfl ?_
        refine zx_iconst dX10_kindHere_83 ?_
        refine zx_icmp_eq (tgt := 91) (by first | exact hz27 _ _ | assumption | exact zr_b _ | exact zcmp_r _ _ | (unfold zr at *; omega)) (by first | exact hz27 _ _ | assumption | exact zr_b _ | exact zcmp_r _ _ | (unfold zr at *; omega)) dX10_kindHere_84 (by decide) (fun h84 => ?_) (fun h84 => ?_)
        · refine zx_iconst dX10_kindHere_91 ?_
          refine zy_top (b := zb False) (zb_f (fun q => q)).symm ?_
          refine zx_iconst dX10_kindHere_92 ?_
          refine zy_cvvR [zi (zb False), zi 1] (sX10_must (A := False) hfl hz27 nL (by omega)) dX10_kindHere_93 (by decide) rfl cw_RX10_252 okX10_must rfl (Nat.le_of_ble_eq_true rfl) ⟨Nat.le_of_ble_eq_true rfl, Nat.le_of_ble_eq_true rfl, Nat.le_of_ble_eq_true rfl, Nat.le_of_ble_eq_true rfl⟩ (fun τ93 hr93 => ?_)
          have hz93 : zOK τ93 := hr93.1
          have hq : PN t n (if kdv t n S.1 = -1 then pF t n S 1 else S) τ93 := by
            have q := hr93.2.2.1
            first
            | (rw [if_pos trivial] at q; rw [if_neg h84]; exact q)
            | (rw [if_neg (fun r => r)] at q; rw [if_pos h84]; exact q)
          refine zx_aloadN dX10_kindHere_96 rfl rfl ?_
          refine zy_cvvR [] (sX10_goesPast (S := (if kdv t n S.1 = -1 then pF t n S 1 else S)) hfl hz93 hq (fun q => by first | (rw [if_neg h84]; exact kdv_w h84) | (rw [if_pos h84] at q; exact absurd q (pF_nz (by decide))))) dX10_kindHere_97 (by decide) rfl cw_RX10_272 okX10_goesPast rfl (Nat.le_of_ble_eq_true rfl) ⟨Nat.le_of_ble_eq_true rfl, Nat.le_of_ble_eq_true rfl, Nat.le_of_ble_eq_true rfl, Nat.le_of_ble_eq_true rfl⟩ (fun τ97 hr97 => ?_)
          have hz97 : zOK τ97 := hr97.1
          have hp97 : PM t n (pKd t n S) τ97 := by
            have q := hr97.2.2
            first
            | (rw [if_neg h84, if_pos z] at q; rw [pKd_y z h84]; exact q)
            | (rw [if_pos h84, if_neg (pF_nz (by decide))] at q; rw [pKd_n (fun _ => h84)]; exact q)
          refine zx_iloadN dX10_kindHere_100 rfl rfl ?_
          refine zx_iret rfl rfl dX10_kindHere_101 ?_
          rw [hQ]
          refine ⟨congrArg (fun z : Int => (Sum.inl (some (zi z)) : Option zV ⊕ String)) ?_, ?_⟩
          · first | (rw [if_pos z]) | (rw [if_neg (fun q => h4 (hP.2.2.2.1.1.trans q))])
          first
          | exact ⟨hz97, MX_tr mL (MX_tr hr93.2.1 hr97.2.1), hp97⟩
          | (have hz4 : ¬ S.2.1 = 0 := fun q => h4 (hP.2.2.2.1.1.trans q)
             rw [pKd_n (fun q => absurd q hz4), pF_n hz4]
             exact ⟨hz97, MX_rf _, hP⟩)
        · refine zx_iconst dX10_kindHere_87 ?_
          refine zx_goto (tgt := 92) dX10_kindHere_88 (by decide) ?_
          refine zy_top (b := zb True) (zb_t trivial).symm ?_
          refine zx_iconst dX10_kindHere_92 ?_
          refine zy_cvvR [zi (zb True), zi 1] (sX10_must (A := True) hfl hz27 nL (by omega)) dX10_kindHere_93 (by decide) rfl cw_RX10_252 okX10_must rfl (Nat.le_of_ble_eq_true rfl) ⟨Nat.le_of_ble_eq_true rfl, Nat.le_of_ble_eq_true rfl, Nat.le_of_ble_eq_true rfl, Nat.le_of_ble_eq_true rfl⟩ (fun τ93 hr93 => ?_)
          have hz93 : zOK τ93 := hr93.1
          have hq : PN t n (if kdv t n S.1 = -1 then pF t n S 1 else S) τ93 := by
            have q := hr93.2.2.1
            first
            | (rw [if_pos trivial] at q; rw [if_neg h84]; exact q)
            | (rw [if_neg (fun r => r)] at q; rw [if_pos h84]; exact q)
          refine zx_aloadN dX10_kindHere_96 rfl rfl ?_
          refine zy_cvvR [] (sX10_goesPast (S := (if kdv t n S.1 = -1 then pF t n S 1 else S)) hfl hz93 hq (fun q => by first | (rw [if_neg h84]; exact kdv_w h84) | (rw [if_pos h84] at q; exact absurd q (pF_nz (by decide))))) dX10_kindHere_97 (by decide) rfl cw_RX10_272 okX10_goesPast rfl (Nat.le_of_ble_eq_true rfl) ⟨Nat.le_of_ble_eq_true rfl, Nat.le_of_ble_eq_true rfl, Nat.le_of_ble_eq_true rfl, Nat.le_of_ble_eq_true rfl⟩ (fun τ97 hr97 => ?_)
          have hz97 : zOK τ97 := hr97.1
          have hp97 : PM t n (pKd t n S) τ97 := by
            have q := hr97.2.2
            first
            | (rw [if_neg h84, if_pos z] at q; rw [pKd_y z h84]; exact q)
            | (rw [if_pos h84, if_neg (pF_nz (by decide))] at q; rw [pKd_n (fun _ => h84)]; exact q)
          refine zx_iloadN dX10_kindHere_100 rfl rfl ?_
          refine zx_iret rfl rfl dX10_kindHere_101 ?_
          rw [hQ]
          refine ⟨congrArg (fun z : Int => (Sum.inl (some (zi z)) : Option zV ⊕ String)) ?_, ?_⟩
          · first | (rw [if_pos z]) | (rw [if_neg (fun q => h4 (hP.2.2.2.1.1.trans q))])
          first
          | exact ⟨hz97, MX_tr mL (MX_tr hr93.2.1 hr97.2.1), hp97⟩
          | (have hz4 : ¬ S.2.1 = 0 := fun q => h4 (hP.2.2.2.1.1.trans q)
             rw [pKd_n (fun q => absurd q hz4), pF_n hz4]
             exact ⟨hz97, MX_rf _, hP⟩)
    · have h16 := zb_n.mp h16
      refine zx_iconst dX10_kindHere_19 ?_
      refine zx_goto (tgt := 80) dX10_kindHere_20 (by decide) ?_
      refine zy_top (b := kdv t n S.1) (by exact (kdv_0  h16.2).symm) ?_
      refine zy_istoreN [zf 10 261, zi (kdv t n S.1)] dX10_kindHere_80 rfl (Nat.le_of_ble_eq_true rfl) (Nat.le_of_ble_eq_true rfl) rfl rfl ?_
      refine zx_aloadN dX10_kindHere_81 rfl rfl ?_
      refine zx_iloadN dX10_kindHere_82 rfl rfl ?_
      refine zx_iconst dX10_kindHere_83 ?_
      refine zx_icmp_eq (tgt := 91) (by first | exact hz13 _ _ | assumption | exact zr_b _ | exact zcmp_r _ _ | (unfold zr at *; omega)) (by first | exact hz13 _ _ | assumption | exact zr_b _ | exact zcmp_r _ _ | (unfold zr at *; omega)) dX10_kindHere_84 (by decide) (fun h84 => ?_) (fun h84 => ?_)
      · refine zx_iconst dX10_kindHere_91 ?_
        refine zy_top (b := zb False) (zb_f (fun q => q)).symm ?_
        refine zx_iconst dX10_kindHere_92 ?_
        refine zy_cvvR [zi (zb False), zi 1] (sX10_must (A := False) hfl hz13 nL (by omega)) dX10_kindHere_93 (by decide) rfl cw_RX10_252 okX10_must rfl (Nat.le_of_ble_eq_true rfl) ⟨Nat.le_of_ble_eq_true rfl, Nat.le_of_ble_eq_true rfl, Nat.le_of_ble_eq_true rfl, Nat.le_of_ble_eq_true rfl⟩ (fun τ93 hr93 => ?_)
        have hz93 : zOK τ93 := hr93.1
        have hq : PN t n (if kdv t n S.1 = -1 then pF t n S 1 else S) τ93 := by
          have q := hr93.2.2.1
          first
          | (rw [if_pos trivial] at q; rw [if_neg h84]; exact q)
          | (rw [if_neg (fun r => r)] at q; rw [if_pos h84]; exact q)
        refine zx_aloadN dX10_kindHere_96 rfl rfl ?_
        refine zy_cvvR [] (sX10_goesPast (S := (if kdv t n S.1 = -1 then pF t n S 1 else S)) hfl hz93 hq (fun q => by first | (rw [if_neg h84]; exact kdv_w h84) | (rw [if_pos h84] at q; exact absurd q (pF_nz (by decide))))) dX10_kindHere_97 (by decide) rfl cw_RX10_272 okX10_goesPast rfl (Nat.le_of_ble_eq_true rfl) ⟨Nat.le_of_ble_eq_true rfl, Nat.le_of_ble_eq_true rfl, Nat.le_of_ble_eq_true rfl, Nat.le_of_ble_eq_true rfl⟩ (fun τ97 hr97 => ?_)
        have hz97 : zOK τ97 := hr97.1
        have hp97 : PM t n (pKd t n S) τ97 := by
          have q := hr97.2.2
          first
          | (rw [if_neg h84, if_pos z] at q; rw [pKd_y z h84]; exact q)
          | (rw [if_pos h84, if_neg (pF_nz (by decide))] at q; rw [pKd_n (fun _ => h84)]; exact q)
        refine zx_iloadN dX10_kindHere_100 rfl rfl ?_
        refine zx_iret rfl rfl dX10_kindHere_101 ?_
        rw [hQ]
        refine ⟨congrArg (fun z : Int => (Sum.inl (some (zi z)) : Option zV ⊕ String)) ?_, ?_⟩
        · first | (rw [if_pos z]) | (rw [if_neg (fun q => h4 (hP.2.2.2.1.1.trans q))])
        first
        | exact ⟨hz97, MX_tr mL (MX_tr hr93.2.1 hr97.2.1), hp97⟩
        | (have hz4 : ¬ S.2.1 = 0 := fun q => h4 (hP.2.2.2.1.1.trans q)
           rw [pKd_n (fun q => absurd q hz4), pF_n hz4]
           exact ⟨hz97, MX_rf _, hP⟩)
      · refine zx_iconst dX10_kindHere_87 ?_
        refine zx_goto (tgt := 92) dX10_kindHere_88 (by decide) ?_
        refine zy_top (b := zb True) (zb_t trivial).symm ?_
        refine zx_iconst dX10_kindHere_92 ?_
        refine zy_cvvR [zi (zb True), zi 1] (sX10_must (A := True) hfl hz13 nL (by omega)) dX10_kindHere_93 (by decide) rfl cw_RX10_252 okX10_must rfl (Nat.le_of_ble_eq_true rfl) ⟨Nat.le_of_ble_eq_true rfl, Nat.le_of_ble_eq_true rfl, Nat.le_of_ble_eq_true rfl, Nat.le_of_ble_eq_true rfl⟩ (fun τ93 hr93 => ?_)
        have hz93 : zOK τ93 := hr93.1
        have hq : PN t n (if kdv t n S.1 = -1 then pF t n S 1 else S) τ93 := by
          have q := hr93.2.2.1
          first
          | (rw [if_pos trivial] at q; rw [if_neg h84]; exact q)
          | (rw [if_neg (fun r => r)] at q; rw [if_pos h84]; exact q)
        refine zx_aloadN dX10_kindHere_96 rfl rfl ?_
        refine zy_cvvR [] (sX10_goesPast (S := (if kdv t n S.1 = -1 then pF t n S 1 else S)) hfl hz93 hq (fun q => by first | (rw [if_neg h84]; exact kdv_w h84) | (rw [if_pos h84] at q; exact absurd q (pF_nz (by decide))))) dX10_kindHere_97 (by decide) rfl cw_RX10_272 okX10_goesPast rfl (Nat.le_of_ble_eq_true rfl) ⟨Nat.le_of_ble_eq_true rfl, Nat.le_of_ble_eq_true rfl, Nat.le_of_ble_eq_true rfl, Nat.le_of_ble_eq_true rfl⟩ (fun τ97 hr97 => ?_)
        have hz97 : zOK τ97 := hr97.1
        have hp97 : PM t n (pKd t n S) τ97 := by
          have q := hr97.2.2
          first
          | (rw [if_neg h84, if_pos z] at q; rw [pKd_y z h84]; exact q)
          | (rw [if_pos h84, if_neg (pF_nz (by decide))] at q; rw [pKd_n (fun _ => h84)]; exact q)
        refine zx_iloadN dX10_kindHere_100 rfl rfl ?_
        refine zx_iret rfl rfl dX10_kindHere_101 ?_
        rw [hQ]
        refine ⟨congrArg (fun z : Int => (Sum.inl (some (zi z)) : Option zV ⊕ String)) ?_, ?_⟩
        · first | (rw [if_pos z]) | (rw [if_neg (fun q => h4 (hP.2.2.2.1.1.trans q))])
        first
        | exact ⟨hz97, MX_tr mL (MX_tr hr93.2.1 hr97.2.1), hp97⟩
        | (have hz4 : ¬ S.2.1 = 0 := fun q => h4 (hP.2.2.2.1.1.trans q)
           rw [pKd_n (fun q => absurd q hz4), pF_n hz4]
           exact ⟨hz97, MX_rf _, hP⟩)
  · refine zx_iconst dX10_kindHere_7 ?_
    refine zx_iret rfl rfl dX10_kindHere_8 ?_
    rw [hQ]
    refine ⟨congrArg (fun z : Int => (Sum.inl (some (zi z)) : Option zV ⊕ String)) ?_, ?_⟩
    · first | (rw [if_pos z]) | (rw [if_neg (fun q => h4 (hP.2.2.2.1.1.trans q))])
    first
    | exact ⟨hz, MX_tr mL (MX_tr hr93.2.1 hr97.2.1), hp97⟩
    | (have hz4 : ¬ S.2.1 = 0 := fun q => h4 (hP.2.2.2.1.1.trans q)
       rw [pKd_n (fun q => absurd q hz4), pF_n hz4]
       exact ⟨hz, MX_rf _, hP⟩)
set_option maxRecDepth 20000 in
set_option maxHeartbeats 2000000 in
theorem sX10_yearHere {l : Launch} {w : zW} (hfl : l.stackTraces = false) {σ : zS} {t : Nat → Int} {n : Nat} {S : zP}  (hz : zOK σ) (hP : PM t n S σ) : Sp l w mX10_yearHere 3 0 [zf 10 261] σ (zqv (some (zi (if (pNum t n S 1450 1999).2.1 = 0 then pV t n S.1 else 1450))) (fun τ => zOK τ ∧ MX σ τ ∧ PM t n (pNum t n S 1450 1999) τ)) := by
  obtain ⟨Q, hQ⟩ : ∃ Q : zQ, Q = (zqv (some (zi (if (pNum t n S 1450 1999).2.1 = 0 then pV t n S.1 else 1450))) (fun τ => zOK τ ∧ MX σ τ ∧ PM t n (pNum t n S 1450 1999) τ)) := ⟨_, rfl⟩
  rw [← hQ]
  refine zx_enter hfl (by decide) rfl 0 rfl ?_
  show zX l w mX10_yearHere (zMQ w 3 0 Q) 0 [zf 10 261] [] 0 σ
  refine zx_aloadN dX10_yearHere_0 rfl rfl ?_
  refine zx_sipush dX10_yearHere_1 rfl ?_
  refine zx_sipush dX10_yearHere_4 rfl ?_
  refine zy_cvR [zi 1450, zi 1999] (sX10_number (a := 1450) (b := 1999) hfl hz hP (by first | exact hz _ _ | assumption | exact zr_b _ | exact zcmp_r _ _ | (unfold zr at *; omega)) (by first | exact hz _ _ | assumption | exact zr_b _ | exact zcmp_r _ _ | (unfold zr at *; omega))) dX10_yearHere_7 (by decide) rfl cw_RX10_282 okX10_number rfl (Nat.le_of_ble_eq_true rfl) ⟨Nat.le_of_ble_eq_true rfl, Nat.le_of_ble_eq_true rfl, Nat.le_of_ble_eq_true rfl, Nat.le_of_ble_eq_true rfl⟩ (fun τ7 hr7 => ?_)
  have hz7 : zOK τ7 := hr7.1
  refine zx_iret rfl rfl dX10_yearHere_10 ?_
  rw [hQ]
  refine ⟨congrArg (fun z : Int => (Sum.inl (some (zi z)) : Option zV ⊕ String)) ?_, ?_⟩
  · rfl
  exact hr7
set_option maxRecDepth 20000 in
set_option maxHeartbeats 2000000 in
theorem sX10_clueHere {l : Launch} {w : zW} (hfl : l.stackTraces = false) {σ : zS} {t : Nat → Int} {n : Nat} {S : zP}  (hz : zOK σ) (hP : PM t n S σ) : Sp l w mX10_clueHere 3 0 [zf 10 261] σ (zqv (some (zi (if (pNum t n S 0 39).2.1 = 0 then pV t n S.1 else 0))) (fun τ => zOK τ ∧ MX σ τ ∧ PM t n (pNum t n S 0 39) τ)) := by
  obtain ⟨Q, hQ⟩ : ∃ Q : zQ, Q = (zqv (some (zi (if (pNum t n S 0 39).2.1 = 0 then pV t n S.1 else 0))) (fun τ => zOK τ ∧ MX σ τ ∧ PM t n (pNum t n S 0 39) τ)) := ⟨_, rfl⟩
  rw [← hQ]
  refine zx_enter hfl (by decide) rfl 0 rfl ?_
  show zX l w mX10_clueHere (zMQ w 3 0 Q) 0 [zf 10 261] [] 0 σ
  refine zx_aloadN dX10_clueHere_0 rfl rfl ?_
  refine zx_iconst dX10_clueHere_1 ?_
  refine zx_bipush dX10_clueHere_2 rfl ?_
  refine zy_cvR [zi 0, zi 39] (sX10_number (a := 0) (b := 39) hfl hz hP (by first | exact hz _ _ | assumption | exact zr_b _ | exact zcmp_r _ _ | (unfold zr at *; omega)) (by first | exact hz _ _ | assumption | exact zr_b _ | exact zcmp_r _ _ | (unfold zr at *; omega))) dX10_clueHere_4 (by decide) rfl cw_RX10_282 okX10_number rfl (Nat.le_of_ble_eq_true rfl) ⟨Nat.le_of_ble_eq_true rfl, Nat.le_of_ble_eq_true rfl, Nat.le_of_ble_eq_true rfl, Nat.le_of_ble_eq_true rfl⟩ (fun τ4 hr4 => ?_)
  have hz4 : zOK τ4 := hr4.1
  refine zx_iret rfl rfl dX10_clueHere_7 ?_
  rw [hQ]
  refine ⟨congrArg (fun z : Int => (Sum.inl (some (zi z)) : Option zV ⊕ String)) ?_, ?_⟩
  · rfl
  exact hr4
set_option maxRecDepth 20000 in
set_option maxHeartbeats 2000000 in
theorem sX10_valueHere {l : Launch} {w : zW} (hfl : l.stackTraces = false) {σ : zS} {D : zBk} {t : Nat → Int} {n : Nat} {S : zP} {x : Int} (hz : zOK σ) (hW : WF D) (hR : Rel D (σ.1 262)) (hU : PM t n S σ) (hk : -1 ≤ x ∧ x ≤ 4) : Sp l w mX10_valueHere 4 0 [zf 10 261, zi x] σ (zqv (some (zi (if (pNum t n S (loM x) (hiK D x)).2.1 = 0 then pV t n S.1 else (loM x)))) (fun τ => zOK τ ∧ MX σ τ ∧ PM t n (pNum t n S (loM x) (hiK D x)) τ)) := by
  obtain ⟨Q, hQ⟩ : ∃ Q : zQ, Q = (zqv (some (zi (if (pNum t n S (loM x) (hiK D x)).2.1 = 0 then pV t n S.1 else (loM x)))) (fun τ => zOK τ ∧ MX σ τ ∧ PM t n (pNum t n S (loM x) (hiK D x)) τ)) := ⟨_, rfl⟩
  rw [← hQ]
  refine zx_enter hfl (by decide) rfl 0 rfl ?_
  show zX l w mX10_valueHere (zMQ w 4 0 Q) 0 [zf 10 261, zi x] [] 0 σ
  have hP : 0 ≤ D 1 0 ∧ D 1 0 ≤ 8 := hW.1.1
  have hM : 0 ≤ D 1 7 ∧ D 1 7 ≤ 8 := hW.1.2.1
  have hE : 0 ≤ D 1 10 ∧ D 1 10 ≤ 12 := hW.1.2.2.1
  have hK : 0 ≤ D 12 0 ∧ D 12 0 ≤ 40 := hW.1.2.2.2
  have r0 : σ.1 262 0 = D 1 0 := hR.1.1
  have r1 : σ.1 262 1 = D 1 7 := hR.1.2.1
  have r2 : σ.1 262 2 = D 1 10 := hR.1.2.2.1
  have r3 : σ.1 262 3 = D 12 0 := hR.1.2.2.2
  have hM := hW.1.2.1
  have hzx : zr x := by unfold zr; omega
  refine zx_iloadN dX10_valueHere_0 rfl rfl ?_
  rcases (by omega : x = 0 ∨ x = 1 ∨ x = 2 ∨ x = 3 ∨ (x < 0 ∨ 3 < x)) with h1 | h1 | h1 | h1 | h1
  · refine zx_tableIn (off := 31) (tgt := 32) (by first | exact hz _ _ | assumption | exact zr_b _ | exact zcmp_r _ _ | (unfold zr at *; omega)) dX10_valueHere_1 (by omega) (by omega) (by rw [h1]; rfl) (by decide) ?_
    refine zx_aloadN dX10_valueHere_32 rfl rfl ?_
    refine zx_iconst dX10_valueHere_33 ?_
    refine zx_bipush dX10_valueHere_34 rfl ?_
    refine zy_cvR [zi 0, zi 31] (sX10_number (a := 0) (b := 31) hfl hz hU (by first | exact hz _ _ | assumption | exact zr_b _ | exact zcmp_r _ _ | (unfold zr at *; omega)) (by first | exact hz _ _ | assumption | exact zr_b _ | exact zcmp_r _ _ | (unfold zr at *; omega))) dX10_valueHere_36 (by decide) rfl cw_RX10_282 okX10_number rfl (Nat.le_of_ble_eq_true rfl) ⟨Nat.le_of_ble_eq_true rfl, Nat.le_of_ble_eq_true rfl, Nat.le_of_ble_eq_true rfl, Nat.le_of_ble_eq_true rfl⟩ (fun τ36 hr36 => ?_)
    have hz36 : zOK τ36 := hr36.1
    refine zx_iret rfl rfl dX10_valueHere_39 ?_
    rw [hQ]
    refine ⟨congrArg (fun z : Int => (Sum.inl (some (zi z)) : Option zV ⊕ String)) ?_, ?_⟩
    · first
      | (have el : loM x = 0 := by unfold loM; first | exact if_pos (by omega) | exact if_neg (by omega)
         have eh : hiK D x = 31 := by unfold hiK; (repeat' split) <;> first | rfl | omega
         rw [el, eh])
      | (have el : loM x = 0 := by unfold loM; first | exact if_pos (by omega) | exact if_neg (by omega)
         have eh : hiK D x = 15 := by unfold hiK; (repeat' split) <;> first | rfl | omega
         rw [el, eh])
      | (have el : loM x = 0 := by unfold loM; first | exact if_pos (by omega) | exact if_neg (by omega)
         have eh : hiK D x = D 1 7 - 1 := by unfold hiK; (repeat' split) <;> first | rfl | omega
         rw [el, eh])
      | (have el : loM x = 0 := by unfold loM; first | exact if_pos (by omega) | exact if_neg (by omega)
         have eh : hiK D x = 9 := by unfold hiK; (repeat' split) <;> first | rfl | omega
         rw [el, eh])
      | (have el : loM x = 1450 := by unfold loM; first | exact if_pos (by omega) | exact if_neg (by omega)
         have eh : hiK D x = 1999 := by unfold hiK; (repeat' split) <;> first | rfl | omega
         rw [el, eh])
    first
    | (have el : loM x = 0 := by unfold loM; first | exact if_pos (by omega) | exact if_neg (by omega)
       have eh : hiK D x = 31 := by unfold hiK; (repeat' split) <;> first | rfl | omega
       rw [el, eh]; exact hr36)
    | (have el : loM x = 0 := by unfold loM; first | exact if_pos (by omega) | exact if_neg (by omega)
       have eh : hiK D x = 15 := by unfold hiK; (repeat' split) <;> first | rfl | omega
       rw [el, eh]; exact hr44)
    | (have el : loM x = 0 := by unfold loM; first | exact if_pos (by omega) | exact if_neg (by omega)
       have eh : hiK D x = D 1 7 - 1 := by unfold hiK; (repeat' split) <;> first | rfl | omega
       rw [el, eh]; exact hr58)
    | (have el : loM x = 0 := by unfold loM; first | exact if_pos (by omega) | exact if_neg (by omega)
       have eh : hiK D x = 9 := by unfold hiK; (repeat' split) <;> first | rfl | omega
       rw [el, eh]; exact hr66)
    | (have el : loM x = 1450 := by unfold loM; first | exact if_pos (by omega) | exact if_neg (by omega)
       have eh : hiK D x = 1999 := by unfold hiK; (repeat' split) <;> first | rfl | omega
       rw [el, eh]; exact hr71)
  · refine zx_tableIn (off := 39) (tgt := 40) (by first | exact hz _ _ | assumption | exact zr_b _ | exact zcmp_r _ _ | (unfold zr at *; omega)) dX10_valueHere_1 (by omega) (by omega) (by rw [h1]; rfl) (by decide) ?_
    refine zx_aloadN dX10_valueHere_40 rfl rfl ?_
    refine zx_iconst dX10_valueHere_41 ?_
    refine zx_bipush dX10_valueHere_42 rfl ?_
    refine zy_cvR [zi 0, zi 15] (sX10_number (a := 0) (b := 15) hfl hz hU (by first | exact hz _ _ | assumption | exact zr_b _ | exact zcmp_r _ _ | (unfold zr at *; omega)) (by first | exact hz _ _ | assumption | exact zr_b _ | exact zcmp_r _ _ | (unfold zr at *; omega))) dX10_valueHere_44 (by decide) rfl cw_RX10_282 okX10_number rfl (Nat.le_of_ble_eq_true rfl) ⟨Nat.le_of_ble_eq_true rfl, Nat.le_of_ble_eq_true rfl, Nat.le_of_ble_eq_true rfl, Nat.le_of_ble_eq_true rfl⟩ (fun τ44 hr44 => ?_)
    have hz44 : zOK τ44 := hr44.1
    refine zx_iret rfl rfl dX10_valueHere_47 ?_
    rw [hQ]
    refine ⟨congrArg (fun z : Int => (Sum.inl (some (zi z)) : Option zV ⊕ String)) ?_, ?_⟩
    · first
      | (have el : loM x = 0 := by unfold loM; first | exact if_pos (by omega) | exact if_neg (by omega)
         have eh : hiK D x = 31 := by unfold hiK; (repeat' split) <;> first | rfl | omega
         rw [el, eh])
      | (have el : loM x = 0 := by unfold loM; first | exact if_pos (by omega) | exact if_neg (by omega)
         have eh : hiK D x = 15 := by unfold hiK; (repeat' split) <;> first | rfl | omega
         rw [el, eh])
      | (have el : loM x = 0 := by unfold loM; first | exact if_pos (by omega) | exact if_neg (by omega)
         have eh : hiK D x = D 1 7 - 1 := by unfold hiK; (repeat' split) <;> first | rfl | omega
         rw [el, eh])
      | (have el : loM x = 0 := by unfold loM; first | exact if_pos (by omega) | exact if_neg (by omega)
         have eh : hiK D x = 9 := by unfold hiK; (repeat' split) <;> first | rfl | omega
         rw [el, eh])
      | (have el : loM x = 1450 := by unfold loM; first | exact if_pos (by omega) | exact if_neg (by omega)
         have eh : hiK D x = 1999 := by unfold hiK; (repeat' split) <;> first | rfl | omega
         rw [el, eh])
    first
    | (have el : loM x = 0 := by unfold loM; first | exact if_pos (by omega) | exact if_neg (by omega)
       have eh : hiK D x = 31 := by unfold hiK; (repeat' split) <;> first | rfl | omega
       rw [el, eh]; exact hr36)
    | (have el : loM x = 0 := by unfold loM; first | exact if_pos (by omega) | exact if_neg (by omega)
       have eh : hiK D x = 15 := by unfold hiK; (repeat' split) <;> first | rfl | omega
       rw [el, eh]; exact hr44)
    | (have el : loM x = 0 := by unfold loM; first | exact if_pos (by omega) | exact if_neg (by omega)
       have eh : hiK D x = D 1 7 - 1 := by unfold hiK; (repeat' split) <;> first | rfl | omega
       rw [el, eh]; exact hr58)
    | (have el : loM x = 0 := by unfold loM; first | exact if_pos (by omega) | exact if_neg (by omega)
       have eh : hiK D x = 9 := by unfold hiK; (repeat' split) <;> first | rfl | omega
       rw [el, eh]; exact hr66)
    | (have el : loM x = 1450 := by unfold loM; first | exact if_pos (by omega) | exact if_neg (by omega)
       have eh : hiK D x = 1999 := by unfold hiK; (repeat' split) <;> first | rfl | omega
       rw [el, eh]; exact hr71)
  · refine zx_tableIn (off := 47) (tgt := 48) (by first | exact hz _ _ | assumption | exact zr_b _ | exact zcmp_r _ _ | (unfold zr at *; omega)) dX10_valueHere_1 (by omega) (by omega) (by rw [h1]; rfl) (by decide) ?_
    refine zx_aloadN dX10_valueHere_48 rfl rfl ?_
    refine zx_iconst dX10_valueHere_49 ?_
    refine zx_aloadN dX10_valueHere_50 rfl rfl ?_
    refine zy_getR (q' := 262) fl_RX10_7 rfl dX10_valueHere_51 rfl ?_
    refine zx_iconst dX10_valueHere_54 ?_
    refine zy_iald (v := σ.1 262 1) rfl (by decide) (by decide) dX10_valueHere_55 (by omega) (by omega) rfl ?_
    refine zy_top (b := D 1 7) (hR.1.2.1) ?_
    refine zx_iconst dX10_valueHere_56 ?_
    refine zx_isub dX10_valueHere_57 ?_
    refine zy_cvR [zi 0, zi ((D 1 7) - 1)] (sX10_number (a := 0) (b := ((D 1 7) - 1)) hfl hz hU (by first | exact hz _ _ | assumption | exact zr_b _ | exact zcmp_r _ _ | (unfold zr at *; omega)) (by first | exact hz _ _ | assumption | exact zr_b _ | exact zcmp_r _ _ | (unfold zr at *; omega))) dX10_valueHere_58 (by decide) rfl cw_RX10_282 okX10_number rfl (Nat.le_of_ble_eq_true rfl) ⟨Nat.le_of_ble_eq_true rfl, Nat.le_of_ble_eq_true rfl, Nat.le_of_ble_eq_true rfl, Nat.le_of_ble_eq_true rfl⟩ (fun τ58 hr58 => ?_)
    have hz58 : zOK τ58 := hr58.1
    refine zx_iret rfl rfl dX10_valueHere_61 ?_
    rw [hQ]
    refine ⟨congrArg (fun z : Int => (Sum.inl (some (zi z)) : Option zV ⊕ String)) ?_, ?_⟩
    · first
      | (have el : loM x = 0 := by unfold loM; first | exact if_pos (by omega) | exact if_neg (by omega)
         have eh : hiK D x = 31 := by unfold hiK; (repeat' split) <;> first | rfl | omega
         rw [el, eh])
      | (have el : loM x = 0 := by unfold loM; first | exact if_pos (by omega) | exact if_neg (by omega)
         have eh : hiK D x = 15 := by unfold hiK; (repeat' split) <;> first | rfl | omega
         rw [el, eh])
      | (have el : loM x = 0 := by unfold loM; first | exact if_pos (by omega) | exact if_neg (by omega)
         have eh : hiK D x = D 1 7 - 1 := by unfold hiK; (repeat' split) <;> first | rfl | omega
         rw [el, eh])
      | (have el : loM x = 0 := by unfold loM; first | exact if_pos (by omega) | exact if_neg (by omega)
         have eh : hiK D x = 9 := by unfold hiK; (repeat' split) <;> first | rfl | omega
         rw [el, eh])
      | (have el : loM x = 1450 := by unfold loM; first | exact if_pos (by omega) | exact if_neg (by omega)
         have eh : hiK D x = 1999 := by unfold hiK; (repeat' split) <;> first | rfl | omega
         rw [el, eh])
    first
    | (have el : loM x = 0 := by unfold loM; first | exact if_pos (by omega) | exact if_neg (by omega)
       have eh : hiK D x = 31 := by unfold hiK; (repeat' split) <;> first | rfl | omega
       rw [el, eh]; exact hr36)
    | (have el : loM x = 0 := by unfold loM; first | exact if_pos (by omega) | exact if_neg (by omega)
       have eh : hiK D x = 15 := by unfold hiK; (repeat' split) <;> first | rfl | omega
       rw [el, eh]; exact hr44)
    | (have el : loM x = 0 := by unfold loM; first | exact if_pos (by omega) | exact if_neg (by omega)
       have eh : hiK D x = D 1 7 - 1 := by unfold hiK; (repeat' split) <;> first | rfl | omega
       rw [el, eh]; exact hr58)
    | (have el : loM x = 0 := by unfold loM; first | exact if_pos (by omega) | exact if_neg (by omega)
       have eh : hiK D x = 9 := by unfold hiK; (repeat' split) <;> first | rfl | omega
       rw [el, eh]; exact hr66)
    | (have el : loM x = 1450 := by unfold loM; first | exact if_pos (by omega) | exact if_neg (by omega)
       have eh : hiK D x = 1999 := by unfold hiK; (repeat' split) <;> first | rfl | omega
       rw [el, eh]; exact hr71)
  · refine zx_tableIn (off := 61) (tgt := 62) (by first | exact hz _ _ | assumption | exact zr_b _ | exact zcmp_r _ _ | (unfold zr at *; omega)) dX10_valueHere_1 (by omega) (by omega) (by rw [h1]; rfl) (by decide) ?_
    refine zx_aloadN dX10_valueHere_62 rfl rfl ?_
    refine zx_iconst dX10_valueHere_63 ?_
    refine zx_bipush dX10_valueHere_64 rfl ?_
    refine zy_cvR [zi 0, zi 9] (sX10_number (a := 0) (b := 9) hfl hz hU (by first | exact hz _ _ | assumption | exact zr_b _ | exact zcmp_r _ _ | (unfold zr at *; omega)) (by first | exact hz _ _ | assumption | exact zr_b _ | exact zcmp_r _ _ | (unfold zr at *; omega))) dX10_valueHere_66 (by decide) rfl cw_RX10_282 okX10_number rfl (Nat.le_of_ble_eq_true rfl) ⟨Nat.le_of_ble_eq_true rfl, Nat.le_of_ble_eq_true rfl, Nat.le_of_ble_eq_true rfl, Nat.le_of_ble_eq_true rfl⟩ (fun τ66 hr66 => ?_)
    have hz66 : zOK τ66 := hr66.1
    refine zx_iret rfl rfl dX10_valueHere_69 ?_
    rw [hQ]
    refine ⟨congrArg (fun z : Int => (Sum.inl (some (zi z)) : Option zV ⊕ String)) ?_, ?_⟩
    · first
      | (have el : loM x = 0 := by unfold loM; first | exact if_pos (by omega) | exact if_neg (by omega)
         have eh : hiK D x = 31 := by unfold hiK; (repeat' split) <;> first | rfl | omega
         rw [el, eh])
      | (have el : loM x = 0 := by unfold loM; first | exact if_pos (by omega) | exact if_neg (by omega)
         have eh : hiK D x = 15 := by unfold hiK; (repeat' split) <;> first | rfl | omega
         rw [el, eh])
      | (have el : loM x = 0 := by unfold loM; first | exact if_pos (by omega) | exact if_neg (by omega)
         have eh : hiK D x = D 1 7 - 1 := by unfold hiK; (repeat' split) <;> first | rfl | omega
         rw [el, eh])
      | (have el : loM x = 0 := by unfold loM; first | exact if_pos (by omega) | exact if_neg (by omega)
         have eh : hiK D x = 9 := by unfold hiK; (repeat' split) <;> first | rfl | omega
         rw [el, eh])
      | (have el : loM x = 1450 := by unfold loM; first | exact if_pos (by omega) | exact if_neg (by omega)
         have eh : hiK D x = 1999 := by unfold hiK; (repeat' split) <;> first | rfl | omega
         rw [el, eh])
    first
    | (have el : loM x = 0 := by unfold loM; first | exact if_pos (by omega) | exact if_neg (by omega)
       have eh : hiK D x = 31 := by unfold hiK; (repeat' split) <;> first | rfl | omega
       rw [el, eh]; exact hr36)
    | (have el : loM x = 0 := by unfold loM; first | exact if_pos (by omega) | exact if_neg (by omega)
       have eh : hiK D x = 15 := by unfold hiK; (repeat' split) <;> first | rfl | omega
       rw [el, eh]; exact hr44)
    | (have el : loM x = 0 := by unfold loM; first | exact if_pos (by omega) | exact if_neg (by omega)
       have eh : hiK D x = D 1 7 - 1 := by unfold hiK; (repeat' split) <;> first | rfl | omega
       rw [el, eh]; exact hr58)
    | (have el : loM x = 0 := by unfold loM; first | exact if_pos (by omega) | exact if_neg (by omega)
       have eh : hiK D x = 9 := by unfold hiK; (repeat' split) <;> first | rfl | omega
       rw [el, eh]; exact hr66)
    | (have el : loM x = 1450 := by unfold loM; first | exact if_pos (by omega) | exact if_neg (by omega)
       have eh : hiK D x = 1999 := by unfold hiK; (repeat' split) <;> first | rfl | omega
       rw [el, eh]; exact hr71)
  · refine zx_tableOut (tgt := 70) (by first | exact hz _ _ | assumption | exact zr_b _ | exact zcmp_r _ _ | (unfold zr at *; omega)) dX10_valueHere_1 (by omega) (by decide) ?_
    refine zx_aloadN dX10_valueHere_70 rfl rfl ?_
    refine zy_cvR [] (sX10_yearHere  hfl hz hU) dX10_valueHere_71 (by decide) rfl cw_RX10_294 okX10_yearHere rfl (Nat.le_of_ble_eq_true rfl) ⟨Nat.le_of_ble_eq_true rfl, Nat.le_of_ble_eq_true rfl, Nat.le_of_ble_eq_true rfl, Nat.le_of_ble_eq_true rfl⟩ (fun τ71 hr71 => ?_)
    have hz71 : zOK τ71 := hr71.1
    refine zx_iret rfl rfl dX10_valueHere_74 ?_
    rw [hQ]
    refine ⟨congrArg (fun z : Int => (Sum.inl (some (zi z)) : Option zV ⊕ String)) ?_, ?_⟩
    · first
      | (have el : loM x = 0 := by unfold loM; first | exact if_pos (by omega) | exact if_neg (by omega)
         have eh : hiK D x = 31 := by unfold hiK; (repeat' split) <;> first | rfl | omega
         rw [el, eh])
      | (have el : loM x = 0 := by unfold loM; first | exact if_pos (by omega) | exact if_neg (by omega)
         have eh : hiK D x = 15 := by unfold hiK; (repeat' split) <;> first | rfl | omega
         rw [el, eh])
      | (have el : loM x = 0 := by unfold loM; first | exact if_pos (by omega) | exact if_neg (by omega)
         have eh : hiK D x = D 1 7 - 1 := by unfold hiK; (repeat' split) <;> first | rfl | omega
         rw [el, eh])
      | (have el : loM x = 0 := by unfold loM; first | exact if_pos (by omega) | exact if_neg (by omega)
         have eh : hiK D x = 9 := by unfold hiK; (repeat' split) <;> first | rfl | omega
         rw [el, eh])
      | (have el : loM x = 1450 := by unfold loM; first | exact if_pos (by omega) | exact if_neg (by omega)
         have eh : hiK D x = 1999 := by unfold hiK; (repeat' split) <;> first | rfl | omega
         rw [el, eh])
    first
    | (have el : loM x = 0 := by unfold loM; first | exact if_pos (by omega) | exact if_neg (by omega)
       have eh : hiK D x = 31 := by unfold hiK; (repeat' split) <;> first | rfl | omega
       rw [el, eh]; exact hr36)
    | (have el : loM x = 0 := by unfold loM; first | exact if_pos (by omega) | exact if_neg (by omega)
       have eh : hiK D x = 15 := by unfold hiK; (repeat' split) <;> first | rfl | omega
       rw [el, eh]; exact hr44)
    | (have el : loM x = 0 := by unfold loM; first | exact if_pos (by omega) | exact if_neg (by omega)
       have eh : hiK D x = D 1 7 - 1 := by unfold hiK; (repeat' split) <;> first | rfl | omega
       rw [el, eh]; exact hr58)
    | (have el : loM x = 0 := by unfold loM; first | exact if_pos (by omega) | exact if_neg (by omega)
       have eh : hiK D x = 9 := by unfold hiK; (repeat' split) <;> first | rfl | omega
       rw [el, eh]; exact hr66)
    | (have el : loM x = 1450 := by unfold loM; first | exact if_pos (by omega) | exact if_neg (by omega)
       have eh : hiK D x = 1999 := by unfold hiK; (repeat' split) <;> first | rfl | omega
       rw [el, eh]; exact hr71)
set_option maxRecDepth 20000 in
set_option maxHeartbeats 2000000 in
theorem sX10_startsText {l : Launch} {w : zW} (hfl : l.stackTraces = false) {σ : zS} {t : Nat → Int} {n : Nat}  (hz : zOK σ) (hT : TM t n σ) (hn : σ.1 261 16 = (n : Int) ∧ n ≤ 1400) (hw : 0 ≤ σ.1 261 19 ∧ σ.1 261 19 ≤ 1401) : Sp l w mX10_startsText 0 0 [zf 10 261] σ (zqv (none) (fun τ => zOK τ ∧ MX σ τ ∧ PM t n (0, 0, -1) τ)) := by
  obtain ⟨Q, hQ⟩ : ∃ Q : zQ, Q = (zqv (none) (fun τ => zOK τ ∧ MX σ τ ∧ PM t n (0, 0, -1) τ)) := ⟨_, rfl⟩
  rw [← hQ]
  refine zx_enter hfl (by decide) rfl 0 rfl ?_
  show zX l w mX10_startsText (zMQ w 0 0 Q) 0 [zf 10 261] [] 0 σ
  refine zx_aloadN dX10_startsText_0 rfl rfl ?_
  refine zx_iconst dX10_startsText_1 ?_
  refine zx_putI fl_RX10_227 rfl (Or.inl fp_10_17) dX10_startsText_2 ?_
  refine zx_aloadN dX10_startsText_5 rfl rfl ?_
  refine zx_iconst dX10_startsText_6 ?_
  refine zx_putI fl_RX10_233 rfl (Or.inl fp_10_18) dX10_startsText_7 ?_
  refine zx_aloadN dX10_startsText_10 rfl rfl ?_
  refine zx_iconst dX10_startsText_11 ?_
  refine zx_putI fl_RX10_243 rfl (Or.inl fp_10_20) dX10_startsText_12 ?_
  refine zx_aloadN dX10_startsText_15 rfl rfl ?_
  refine zx_iconst dX10_startsText_16 ?_
  refine zx_putI fl_RX10_246 rfl (Or.inl fp_10_21) dX10_startsText_17 ?_
  refine zx_vret rfl dX10_startsText_20 ?_
  rw [hQ]
  refine ⟨rfl, ?_⟩
  refine ⟨(zOK_put (zOK_put (zOK_put (zOK_put hz (by unfold zr; omega)) (by unfold zr; omega)) (by unfold zr; omega)) (by unfold zr; omega)), MX_put (by decide) (MX_put (by decide) (MX_put (by decide) (MX_put (by decide) (MX_rf _)))), TM_e (fun i => ?_) hT, ⟨?_, hn.2⟩, Nat.zero_le _, ⟨?_, ?_⟩, ?_, fun _ => ⟨rfl, ?_, ?_⟩⟩ <;> simp only [zput_e] <;> simp
  · exact hn.1
  · omega
set_option maxRecDepth 20000 in
set_option maxHeartbeats 2000000 in
theorem sX10_endsText {l : Launch} {w : zW} (hfl : l.stackTraces = false) {σ : zS}  (hz : zOK σ)  : Sp l w mX10_endsText 0 0 [zf 10 261] σ (zqv (some (zi (zb (σ.1 261 20 = 0)))) (fun τ => zOK τ ∧ (∀ k i, τ.1 k i = if k = 261 ∧ i = 16 then 0 else if k = 261 ∧ i = 22 then σ.1 261 20 else if k = 261 ∧ i = 23 then σ.1 261 21 else σ.1 k i) ∧ τ.2 = σ.2)) := by
  obtain ⟨Q, hQ⟩ : ∃ Q : zQ, Q = (zqv (some (zi (zb (σ.1 261 20 = 0)))) (fun τ => zOK τ ∧ (∀ k i, τ.1 k i = if k = 261 ∧ i = 16 then 0 else if k = 261 ∧ i = 22 then σ.1 261 20 else if k = 261 ∧ i = 23 then σ.1 261 21 else σ.1 k i) ∧ τ.2 = σ.2)) := ⟨_, rfl⟩
  rw [← hQ]
  refine zx_enter hfl (by decide) rfl 0 rfl ?_
  show zX l w mX10_endsText (zMQ w 0 0 Q) 0 [zf 10 261] [] 0 σ
  refine zx_aloadN dX10_endsText_0 rfl rfl ?_
  refine zx_iconst dX10_endsText_1 ?_
  refine zx_putI fl_RX10_61 rfl (Or.inl fp_10_16) dX10_endsText_2 ?_
  refine zx_aloadN dX10_endsText_5 rfl rfl ?_
  refine zx_aloadN dX10_endsText_6 rfl rfl ?_
  refine zy_getI (v := σ.1 261 20) fl_RX10_243 rfl dX10_endsText_7 (zput_i _ _ _ _ _ (by omega)) ?_
  refine zx_putI fl_RX10_275 rfl (Or.inl fp_10_22) dX10_endsText_10 ?_
  refine zx_aloadN dX10_endsText_13 rfl rfl ?_
  refine zx_aloadN dX10_endsText_14 rfl rfl ?_
  refine zy_getI (v := σ.1 261 21) fl_RX10_246 rfl dX10_endsText_15 ((zput_i _ _ _ _ _ (by omega)).trans (zput_i _ _ _ _ _ (by omega))) ?_
  refine zx_putI fl_RX10_34 rfl (Or.inl fp_10_23) dX10_endsText_18 ?_
  refine zx_aloadN dX10_endsText_21 rfl rfl ?_
  refine zy_getI (v := σ.1 261 20) fl_RX10_243 rfl dX10_endsText_22 ((zput_i _ _ _ _ _ (by omega)).trans ((zput_i _ _ _ _ _ (by omega)).trans (zput_i _ _ _ _ _ (by omega)))) ?_
  refine zx_if_ne (tgt := 32) (by first | exact hz _ _ | assumption | exact zr_b _ | exact zcmp_r _ _ | (unfold zr at *; omega)) dX10_endsText_25 (by decide) (fun h25 => ?_) (fun h25 => ?_)
  · refine zx_iconst dX10_endsText_32 ?_
    refine zx_iret rfl rfl dX10_endsText_33 ?_
    rw [hQ]
    refine ⟨congrArg (fun z : Int => (Sum.inl (some (zi z)) : Option zV ⊕ String)) ?_, ?_⟩
    · first | exact (zb_t (by assumption)).symm | exact (zb_f (by assumption)).symm
    refine ⟨(zOK_put (zOK_put (zOK_put hz (by unfold zr; omega)) (by first | exact hz _ _ | assumption | exact zr_b _ | exact zcmp_r _ _ | (unfold zr at *; omega))) (by first | exact hz _ _ | assumption | exact zr_b _ | exact zcmp_r _ _ | (unfold zr at *; omega))), fun k i => ?_, rfl⟩
    simp only [zput_e]
    (repeat' split) <;> first | rfl | omega
  · refine zx_iconst dX10_endsText_28 ?_
    refine zx_goto (tgt := 33) dX10_endsText_29 (by decide) ?_
    refine zx_iret rfl rfl dX10_endsText_33 ?_
    rw [hQ]
    refine ⟨congrArg (fun z : Int => (Sum.inl (some (zi z)) : Option zV ⊕ String)) ?_, ?_⟩
    · first | exact (zb_t (by assumption)).symm | exact (zb_f (by assumption)).symm
    refine ⟨(zOK_put (zOK_put (zOK_put hz (by unfold zr; omega)) (by first | exact hz _ _ | assumption | exact zr_b _ | exact zcmp_r _ _ | (unfold zr at *; omega))) (by first | exact hz _ _ | assumption | exact zr_b _ | exact zcmp_r _ _ | (unfold zr at *; omega))), fun k i => ?_, rfl⟩
    simp only [zput_e]
    (repeat' split) <;> first | rfl | omega
set_option maxRecDepth 20000 in
set_option maxHeartbeats 2000000 in
theorem sX10_errorCode {l : Launch} {w : zW} (hfl : l.stackTraces = false) {σ : zS}  (hz : zOK σ)  : Sp l w mX10_errorCode 0 0 [zf 10 261] σ (zret (zi (σ.1 261 22)) (zput σ 261 6 0)) := by
  obtain ⟨Q, hQ⟩ : ∃ Q : zQ, Q = (zret (zi (σ.1 261 22)) (zput σ 261 6 0)) := ⟨_, rfl⟩
  rw [← hQ]
  refine zx_enter hfl (by decide) rfl 0 rfl ?_
  show zX l w mX10_errorCode (zMQ w 0 0 Q) 0 [zf 10 261] [] 0 σ
  refine zx_aloadN dX10_errorCode_0 rfl rfl ?_
  refine zx_iconst dX10_errorCode_1 ?_
  refine zx_putI fl_RX10_67 rfl (Or.inl fp_10_6) dX10_errorCode_2 ?_
  refine zx_aloadN dX10_errorCode_5 rfl rfl ?_
  refine zy_getI (v := σ.1 261 22) fl_RX10_275 rfl dX10_errorCode_6 (zput_i _ _ _ _ _ (by omega)) ?_
  refine zx_iret rfl rfl dX10_errorCode_9 ?_
  rw [hQ]
  refine ⟨congrArg (fun z : Int => (Sum.inl (some (zi z)) : Option zV ⊕ String)) ?_, by first | rfl | (exfalso; omega)⟩
  first | rfl | exact zput_i _ _ _ _ _ (by decide)
set_option maxRecDepth 20000 in
set_option maxHeartbeats 2000000 in
theorem sX10_errorPosition {l : Launch} {w : zW} (hfl : l.stackTraces = false) {σ : zS}  (hz : zOK σ)  : Sp l w mX10_errorPosition 0 0 [zf 10 261] σ (zret (zi (σ.1 261 23)) (zput σ 261 6 0)) := by
  obtain ⟨Q, hQ⟩ : ∃ Q : zQ, Q = (zret (zi (σ.1 261 23)) (zput σ 261 6 0)) := ⟨_, rfl⟩
  rw [← hQ]
  refine zx_enter hfl (by decide) rfl 0 rfl ?_
  show zX l w mX10_errorPosition (zMQ w 0 0 Q) 0 [zf 10 261] [] 0 σ
  refine zx_aloadN dX10_errorPosition_0 rfl rfl ?_
  refine zx_iconst dX10_errorPosition_1 ?_
  refine zx_putI fl_RX10_67 rfl (Or.inl fp_10_6) dX10_errorPosition_2 ?_
  refine zx_aloadN dX10_errorPosition_5 rfl rfl ?_
  refine zy_getI (v := σ.1 261 23) fl_RX10_34 rfl dX10_errorPosition_6 (zput_i _ _ _ _ _ (by omega)) ?_
  refine zx_iret rfl rfl dX10_errorPosition_9 ?_
  rw [hQ]
  refine ⟨congrArg (fun z : Int => (Sum.inl (some (zi z)) : Option zV ⊕ String)) ?_, by first | rfl | (exfalso; omega)⟩
  first | rfl | exact zput_i _ _ _ _ _ (by decide)

