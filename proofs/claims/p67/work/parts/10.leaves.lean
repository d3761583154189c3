abbrev mX9_isWithin : zM := (yX9_isWithin, cX9_isWithin, 3, (some .boolean), [])
theorem okX9_isWithin : zMok mX9_isWithin 3 := ⟨by decide, by decide, by decide +kernel⟩
theorem dX9_isWithin_0 : decode cX9_isWithin 0 = .ok (.iload_n 0, 1) := by decide +kernel
theorem dX9_isWithin_1 : decode cX9_isWithin 1 = .ok (.iload_n 1, 1) := by decide +kernel
theorem dX9_isWithin_2 : decode cX9_isWithin 2 = .ok (.if_icmp .lt 12, 3) := by decide +kernel
theorem dX9_isWithin_14 : decode cX9_isWithin 14 = .ok (.iconst 0, 1) := by decide +kernel
theorem dX9_isWithin_15 : decode cX9_isWithin 15 = .ok (.ireturn, 1) := by decide +kernel
theorem dX9_isWithin_5 : decode cX9_isWithin 5 = .ok (.iload_n 0, 1) := by decide +kernel
theorem dX9_isWithin_6 : decode cX9_isWithin 6 = .ok (.iload_n 2, 1) := by decide +kernel
theorem dX9_isWithin_7 : decode cX9_isWithin 7 = .ok (.if_icmp .gt 7, 3) := by decide +kernel
theorem dX9_isWithin_10 : decode cX9_isWithin 10 = .ok (.iconst 1, 1) := by decide +kernel
theorem dX9_isWithin_11 : decode cX9_isWithin 11 = .ok (.goto 4, 3) := by decide +kernel
abbrev mX2_has : zM := (yX2_has, cX2_has, 2, (some .boolean), [])
theorem okX2_has : zMok mX2_has 1 := ⟨by decide, by decide, by decide +kernel⟩
theorem dX2_has_0 : decode cX2_has 0 = .ok (.iload_n 1, 1) := by decide +kernel
theorem dX2_has_1 : decode cX2_has 1 = .ok (.ifCond .lt 15, 3) := by decide +kernel
theorem dX2_has_16 : decode cX2_has 16 = .ok (.iconst 0, 1) := by decide +kernel
theorem dX2_has_17 : decode cX2_has 17 = .ok (.ireturn, 1) := by decide +kernel
theorem dX2_has_4 : decode cX2_has 4 = .ok (.iload_n 1, 1) := by decide +kernel
theorem dX2_has_5 : decode cX2_has 5 = .ok (.aload_n 0, 1) := by decide +kernel
theorem dX2_has_6 : decode cX2_has 6 = .ok (.getfield 9, 3) := by decide +kernel
theorem fl_RX2_9 : zFl RX2 9 2 0 := ⟨RX2, TX2, 8, rfl, by decide, zmem1 162 (by decide +kernel) rfl, rfl⟩
theorem dX2_has_9 : decode cX2_has 9 = .ok (.if_icmp .ge 7, 3) := by decide +kernel
theorem dX2_has_12 : decode cX2_has 12 = .ok (.iconst 1, 1) := by decide +kernel
theorem dX2_has_13 : decode cX2_has 13 = .ok (.goto 4, 3) := by decide +kernel
abbrev mX2_isFull : zM := (yX2_isFull, cX2_isFull, 1, (some .boolean), [])
theorem okX2_isFull : zMok mX2_isFull 0 := ⟨by decide, by decide, by decide +kernel⟩
theorem dX2_isFull_0 : decode cX2_isFull 0 = .ok (.aload_n 0, 1) := by decide +kernel
theorem dX2_isFull_1 : decode cX2_isFull 1 = .ok (.getfield 9, 3) := by decide +kernel
theorem dX2_isFull_4 : decode cX2_isFull 4 = .ok (.ifCond .lt 12, 3) := by decide +kernel
theorem dX2_isFull_16 : decode cX2_isFull 16 = .ok (.iconst 1, 1) := by decide +kernel
theorem dX2_isFull_17 : decode cX2_isFull 17 = .ok (.goto 4, 3) := by decide +kernel
theorem dX2_isFull_21 : decode cX2_isFull 21 = .ok (.ireturn, 1) := by decide +kernel
theorem dX2_isFull_7 : decode cX2_isFull 7 = .ok (.aload_n 0, 1) := by decide +kernel
theorem dX2_isFull_8 : decode cX2_isFull 8 = .ok (.getfield 9, 3) := by decide +kernel
theorem dX2_isFull_11 : decode cX2_isFull 11 = .ok (.bipush 40, 2) := by decide +kernel
theorem dX2_isFull_13 : decode cX2_isFull 13 = .ok (.if_icmp .lt 7, 3) := by decide +kernel
theorem dX2_isFull_20 : decode cX2_isFull 20 = .ok (.iconst 0, 1) := by decide +kernel
abbrev mX2_clueAt : zM := (yX2_clueAt, cX2_clueAt, 2, (some .int), [])
theorem okX2_clueAt : zMok mX2_clueAt 1 := ⟨by decide, by decide, by decide +kernel⟩
theorem dX2_clueAt_0 : decode cX2_clueAt 0 = .ok (.iload_n 1, 1) := by decide +kernel
theorem dX2_clueAt_1 : decode cX2_clueAt 1 = .ok (.ifCond .lt 20, 3) := by decide +kernel
theorem dX2_clueAt_21 : decode cX2_clueAt 21 = .ok (.iconst (-1), 1) := by decide +kernel
theorem dX2_clueAt_22 : decode cX2_clueAt 22 = .ok (.ireturn, 1) := by decide +kernel
theorem dX2_clueAt_4 : decode cX2_clueAt 4 = .ok (.iload_n 1, 1) := by decide +kernel
theorem dX2_clueAt_5 : decode cX2_clueAt 5 = .ok (.aload_n 0, 1) := by decide +kernel
theorem dX2_clueAt_6 : decode cX2_clueAt 6 = .ok (.getfield 9, 3) := by decide +kernel
theorem dX2_clueAt_9 : decode cX2_clueAt 9 = .ok (.if_icmp .ge 12, 3) := by decide +kernel
theorem dX2_clueAt_12 : decode cX2_clueAt 12 = .ok (.aload_n 0, 1) := by decide +kernel
theorem dX2_clueAt_13 : decode cX2_clueAt 13 = .ok (.getfield 35, 3) := by decide +kernel
theorem fl_RX2_35 : zFl RX2 35 2 7 := ⟨RX2, TX2, 8, rfl, by decide, zmem1 184 (by decide +kernel) rfl, rfl⟩
theorem dX2_clueAt_16 : decode cX2_clueAt 16 = .ok (.iload_n 1, 1) := by decide +kernel
theorem dX2_clueAt_17 : decode cX2_clueAt 17 = .ok (.iaload, 1) := by decide +kernel
theorem dX2_clueAt_18 : decode cX2_clueAt 18 = .ok (.goto 4, 3) := by decide +kernel
abbrev mX2_pageAt : zM := (yX2_pageAt, cX2_pageAt, 3, (some .int), [])
theorem okX2_pageAt : zMok mX2_pageAt 1 := ⟨by decide, by decide, by decide +kernel⟩
theorem dX2_pageAt_0 : decode cX2_pageAt 0 = .ok (.aload_n 0, 1) := by decide +kernel
theorem dX2_pageAt_1 : decode cX2_pageAt 1 = .ok (.iload_n 1, 1) := by decide +kernel
theorem dX2_pageAt_2 : decode cX2_pageAt 2 = .ok (.invokevirtual 52, 3) := by decide +kernel
theorem cw_RX2_52 : zCwV RX2 52 mX2_clueAt := zall [507, 508, 509, 36, 510] (by decide +kernel) (by decide +kernel)
theorem dX2_pageAt_5 : decode cX2_pageAt 5 = .ok (.istore_n 2, 1) := by decide +kernel
theorem dX2_pageAt_6 : decode cX2_pageAt 6 = .ok (.aload_n 0, 1) := by decide +kernel
theorem dX2_pageAt_7 : decode cX2_pageAt 7 = .ok (.iload_n 2, 1) := by decide +kernel
theorem dX2_pageAt_8 : decode cX2_pageAt 8 = .ok (.invokevirtual 55, 3) := by decide +kernel
theorem cw_RX2_55 : zCwV RX2 55 mX2_has := zall [511, 512, 513, 36, 514] (by decide +kernel) (by decide +kernel)
theorem dX2_pageAt_11 : decode cX2_pageAt 11 = .ok (.ifCond .eq 12, 3) := by decide +kernel
theorem dX2_pageAt_23 : decode cX2_pageAt 23 = .ok (.iconst 0, 1) := by decide +kernel
theorem dX2_pageAt_24 : decode cX2_pageAt 24 = .ok (.ireturn, 1) := by decide +kernel
theorem dX2_pageAt_14 : decode cX2_pageAt 14 = .ok (.aload_n 0, 1) := by decide +kernel
theorem dX2_pageAt_15 : decode cX2_pageAt 15 = .ok (.getfield 15, 3) := by decide +kernel
theorem fl_RX2_15 : zFl RX2 15 2 1 := ⟨RX2, TX2, 8, rfl, by decide, zmem1 166 (by decide +kernel) rfl, rfl⟩
theorem dX2_pageAt_18 : decode cX2_pageAt 18 = .ok (.iload_n 2, 1) := by decide +kernel
theorem dX2_pageAt_19 : decode cX2_pageAt 19 = .ok (.iaload, 1) := by decide +kernel
theorem dX2_pageAt_20 : decode cX2_pageAt 20 = .ok (.goto 4, 3) := by decide +kernel
abbrev mX2_isUnread : zM := (yX2_isUnread, cX2_isUnread, 2, (some .boolean), [])
theorem okX2_isUnread : zMok mX2_isUnread 1 := ⟨by decide, by decide, by decide +kernel⟩
theorem dX2_isUnread_0 : decode cX2_isUnread 0 = .ok (.aload_n 0, 1) := by decide +kernel
theorem dX2_isUnread_1 : decode cX2_isUnread 1 = .ok (.iload_n 1, 1) := by decide +kernel
theorem dX2_isUnread_2 : decode cX2_isUnread 2 = .ok (.invokevirtual 55, 3) := by decide +kernel
theorem dX2_isUnread_5 : decode cX2_isUnread 5 = .ok (.ifCond .eq 16, 3) := by decide +kernel
theorem dX2_isUnread_21 : decode cX2_isUnread 21 = .ok (.iconst 0, 1) := by decide +kernel
theorem dX2_isUnread_22 : decode cX2_isUnread 22 = .ok (.ireturn, 1) := by decide +kernel
theorem dX2_isUnread_8 : decode cX2_isUnread 8 = .ok (.aload_n 0, 1) := by decide +kernel
theorem dX2_isUnread_9 : decode cX2_isUnread 9 = .ok (.getfield 28, 3) := by decide +kernel
theorem fl_RX2_28 : zFl RX2 28 2 5 := ⟨RX2, TX2, 8, rfl, by decide, zmem1 178 (by decide +kernel) rfl, rfl⟩
theorem dX2_isUnread_12 : decode cX2_isUnread 12 = .ok (.iload_n 1, 1) := by decide +kernel
theorem dX2_isUnread_13 : decode cX2_isUnread 13 = .ok (.baload, 1) := by decide +kernel
theorem dX2_isUnread_14 : decode cX2_isUnread 14 = .ok (.ifCond .ne 7, 3) := by decide +kernel
theorem dX2_isUnread_17 : decode cX2_isUnread 17 = .ok (.iconst 1, 1) := by decide +kernel
theorem dX2_isUnread_18 : decode cX2_isUnread 18 = .ok (.goto 4, 3) := by decide +kernel
abbrev mX2_counts : zM := (yX2_counts, cX2_counts, 2, (some .boolean), [])
theorem okX2_counts : zMok mX2_counts 1 := ⟨by decide, by decide, by decide +kernel⟩
theorem dX2_counts_0 : decode cX2_counts 0 = .ok (.aload_n 0, 1) := by decide +kernel
theorem dX2_counts_1 : decode cX2_counts 1 = .ok (.iload_n 1, 1) := by decide +kernel
theorem dX2_counts_2 : decode cX2_counts 2 = .ok (.invokevirtual 55, 3) := by decide +kernel
theorem dX2_counts_5 : decode cX2_counts 5 = .ok (.ifCond .eq 25, 3) := by decide +kernel
theorem dX2_counts_30 : decode cX2_counts 30 = .ok (.iconst 0, 1) := by decide +kernel
theorem dX2_counts_31 : decode cX2_counts 31 = .ok (.ireturn, 1) := by decide +kernel
theorem dX2_counts_8 : decode cX2_counts 8 = .ok (.aload_n 0, 1) := by decide +kernel
theorem dX2_counts_9 : decode cX2_counts 9 = .ok (.getfield 28, 3) := by decide +kernel
theorem dX2_counts_12 : decode cX2_counts 12 = .ok (.iload_n 1, 1) := by decide +kernel
theorem dX2_counts_13 : decode cX2_counts 13 = .ok (.baload, 1) := by decide +kernel
theorem dX2_counts_14 : decode cX2_counts 14 = .ok (.ifCond .eq 16, 3) := by decide +kernel
theorem dX2_counts_17 : decode cX2_counts 17 = .ok (.aload_n 0, 1) := by decide +kernel
theorem dX2_counts_18 : decode cX2_counts 18 = .ok (.getfield 32, 3) := by decide +kernel
theorem fl_RX2_32 : zFl RX2 32 2 6 := ⟨RX2, TX2, 8, rfl, by decide, zmem1 180 (by decide +kernel) rfl, rfl⟩
theorem dX2_counts_21 : decode cX2_counts 21 = .ok (.iload_n 1, 1) := by decide +kernel
theorem dX2_counts_22 : decode cX2_counts 22 = .ok (.baload, 1) := by decide +kernel
theorem dX2_counts_23 : decode cX2_counts 23 = .ok (.ifCond .ne 7, 3) := by decide +kernel
theorem dX2_counts_26 : decode cX2_counts 26 = .ok (.iconst 1, 1) := by decide +kernel
theorem dX2_counts_27 : decode cX2_counts 27 = .ok (.goto 4, 3) := by decide +kernel
abbrev mX2_firstUnread : zM := (yX2_firstUnread, cX2_firstUnread, 2, (some .int), [])
theorem okX2_firstUnread : zMok mX2_firstUnread 0 := ⟨by decide, by decide, by decide +kernel⟩
theorem dX2_firstUnread_0 : decode cX2_firstUnread 0 = .ok (.iconst 0, 1) := by decide +kernel
theorem dX2_firstUnread_1 : decode cX2_firstUnread 1 = .ok (.istore_n 1, 1) := by decide +kernel
theorem dX2_firstUnread_2 : decode cX2_firstUnread 2 = .ok (.iload_n 1, 1) := by decide +kernel
theorem dX2_firstUnread_3 : decode cX2_firstUnread 3 = .ok (.aload_n 0, 1) := by decide +kernel
theorem dX2_firstUnread_4 : decode cX2_firstUnread 4 = .ok (.getfield 9, 3) := by decide +kernel
theorem dX2_firstUnread_7 : decode cX2_firstUnread 7 = .ok (.if_icmp .ge 29, 3) := by decide +kernel
theorem dX2_firstUnread_36 : decode cX2_firstUnread 36 = .ok (.iconst (-1), 1) := by decide +kernel
theorem dX2_firstUnread_37 : decode cX2_firstUnread 37 = .ok (.ireturn, 1) := by decide +kernel
theorem dX2_firstUnread_10 : decode cX2_firstUnread 10 = .ok (.aload_n 0, 1) := by decide +kernel
theorem dX2_firstUnread_11 : decode cX2_firstUnread 11 = .ok (.aload_n 0, 1) := by decide +kernel
theorem dX2_firstUnread_12 : decode cX2_firstUnread 12 = .ok (.getfield 35, 3) := by decide +kernel
theorem dX2_firstUnread_15 : decode cX2_firstUnread 15 = .ok (.iload_n 1, 1) := by decide +kernel
theorem dX2_firstUnread_16 : decode cX2_firstUnread 16 = .ok (.iaload, 1) := by decide +kernel
theorem dX2_firstUnread_17 : decode cX2_firstUnread 17 = .ok (.invokevirtual 59, 3) := by decide +kernel
theorem cw_RX2_59 : zCwV RX2 59 mX2_isUnread := zall [808, 809, 810, 36, 811] (by decide +kernel) (by decide +kernel)
theorem dX2_firstUnread_20 : decode cX2_firstUnread 20 = .ok (.ifCond .eq 10, 3) := by decide +kernel
theorem dX2_firstUnread_30 : decode cX2_firstUnread 30 = .ok (.iinc 1 1, 3) := by decide +kernel
theorem dX2_firstUnread_33 : decode cX2_firstUnread 33 = .ok (.goto (-31), 3) := by decide +kernel
theorem dX2_firstUnread_23 : decode cX2_firstUnread 23 = .ok (.aload_n 0, 1) := by decide +kernel
theorem dX2_firstUnread_24 : decode cX2_firstUnread 24 = .ok (.getfield 35, 3) := by decide +kernel
theorem dX2_firstUnread_27 : decode cX2_firstUnread 27 = .ok (.iload_n 1, 1) := by decide +kernel
theorem dX2_firstUnread_28 : decode cX2_firstUnread 28 = .ok (.iaload, 1) := by decide +kernel
theorem dX2_firstUnread_29 : decode cX2_firstUnread 29 = .ok (.ireturn, 1) := by decide +kernel
abbrev mX2_unreadCount : zM := (yX2_unreadCount, cX2_unreadCount, 3, (some .int), [])
theorem okX2_unreadCount : zMok mX2_unreadCount 0 := ⟨by decide, by decide, by decide +kernel⟩
theorem dX2_unreadCount_0 : decode cX2_unreadCount 0 = .ok (.iconst 0, 1) := by decide +kernel
theorem dX2_unreadCount_1 : decode cX2_unreadCount 1 = .ok (.istore_n 1, 1) := by decide +kernel
theorem dX2_unreadCount_2 : decode cX2_unreadCount 2 = .ok (.iconst 0, 1) := by decide +kernel
theorem dX2_unreadCount_3 : decode cX2_unreadCount 3 = .ok (.istore_n 2, 1) := by decide +kernel
theorem dX2_unreadCount_4 : decode cX2_unreadCount 4 = .ok (.iload_n 2, 1) := by decide +kernel
theorem dX2_unreadCount_5 : decode cX2_unreadCount 5 = .ok (.aload_n 0, 1) := by decide +kernel
theorem dX2_unreadCount_6 : decode cX2_unreadCount 6 = .ok (.getfield 9, 3) := by decide +kernel
theorem dX2_unreadCount_9 : decode cX2_unreadCount 9 = .ok (.if_icmp .ge 20, 3) := by decide +kernel
theorem dX2_unreadCount_29 : decode cX2_unreadCount 29 = .ok (.iload_n 1, 1) := by decide +kernel
theorem dX2_unreadCount_30 : decode cX2_unreadCount 30 = .ok (.ireturn, 1) := by decide +kernel
theorem dX2_unreadCount_12 : decode cX2_unreadCount 12 = .ok (.aload_n 0, 1) := by decide +kernel
theorem dX2_unreadCount_13 : decode cX2_unreadCount 13 = .ok (.iload_n 2, 1) := by decide +kernel
theorem dX2_unreadCount_14 : decode cX2_unreadCount 14 = .ok (.invokevirtual 59, 3) := by decide +kernel
theorem dX2_unreadCount_17 : decode cX2_unreadCount 17 = .ok (.ifCond .eq 6, 3) := by decide +kernel
theorem dX2_unreadCount_23 : decode cX2_unreadCount 23 = .ok (.iinc 2 1, 3) := by decide +kernel
theorem dX2_unreadCount_26 : decode cX2_unreadCount 26 = .ok (.goto (-22), 3) := by decide +kernel
theorem dX2_unreadCount_20 : decode cX2_unreadCount 20 = .ok (.iinc 1 1, 3) := by decide +kernel
abbrev mX0_hasPrinter : zM := (yX0_hasPrinter, cX0_hasPrinter, 2, (some .boolean), [])
theorem okX0_hasPrinter : zMok mX0_hasPrinter 1 := ⟨by decide, by decide, by decide +kernel⟩
theorem dX0_hasPrinter_0 : decode cX0_hasPrinter 0 = .ok (.iload_n 1, 1) := by decide +kernel
theorem dX0_hasPrinter_1 : decode cX0_hasPrinter 1 = .ok (.ifCond .lt 15, 3) := by decide +kernel
theorem dX0_hasPrinter_16 : decode cX0_hasPrinter 16 = .ok (.iconst 0, 1) := by decide +kernel
theorem dX0_hasPrinter_17 : decode cX0_hasPrinter 17 = .ok (.ireturn, 1) := by decide +kernel
theorem dX0_hasPrinter_4 : decode cX0_hasPrinter 4 = .ok (.iload_n 1, 1) := by decide +kernel
theorem dX0_hasPrinter_5 : decode cX0_hasPrinter 5 = .ok (.aload_n 0, 1) := by decide +kernel
theorem dX0_hasPrinter_6 : decode cX0_hasPrinter 6 = .ok (.getfield 9, 3) := by decide +kernel
theorem fl_RX0_9 : zFl RX0 9 0 0 := ⟨RX0, TX0, 13, rfl, by decide, zmem1 103 (by decide +kernel) rfl, rfl⟩
theorem dX0_hasPrinter_9 : decode cX0_hasPrinter 9 = .ok (.if_icmp .ge 7, 3) := by decide +kernel
theorem dX0_hasPrinter_12 : decode cX0_hasPrinter 12 = .ok (.iconst 1, 1) := by decide +kernel
theorem dX0_hasPrinter_13 : decode cX0_hasPrinter 13 = .ok (.goto 4, 3) := by decide +kernel
abbrev mX0_hasWatermark : zM := (yX0_hasWatermark, cX0_hasWatermark, 2, (some .boolean), [])
theorem okX0_hasWatermark : zMok mX0_hasWatermark 1 := ⟨by decide, by decide, by decide +kernel⟩
theorem dX0_hasWatermark_0 : decode cX0_hasWatermark 0 = .ok (.iload_n 1, 1) := by decide +kernel
theorem dX0_hasWatermark_1 : decode cX0_hasWatermark 1 = .ok (.ifCond .lt 15, 3) := by decide +kernel
theorem dX0_hasWatermark_16 : decode cX0_hasWatermark 16 = .ok (.iconst 0, 1) := by decide +kernel
theorem dX0_hasWatermark_17 : decode cX0_hasWatermark 17 = .ok (.ireturn, 1) := by decide +kernel
theorem dX0_hasWatermark_4 : decode cX0_hasWatermark 4 = .ok (.iload_n 1, 1) := by decide +kernel
theorem dX0_hasWatermark_5 : decode cX0_hasWatermark 5 = .ok (.aload_n 0, 1) := by decide +kernel
theorem dX0_hasWatermark_6 : decode cX0_hasWatermark 6 = .ok (.getfield 34, 3) := by decide +kernel
theorem fl_RX0_34 : zFl RX0 34 0 7 := ⟨RX0, TX0, 13, rfl, by decide, zmem1 120 (by decide +kernel) rfl, rfl⟩
theorem dX0_hasWatermark_9 : decode cX0_hasWatermark 9 = .ok (.if_icmp .ge 7, 3) := by decide +kernel
theorem dX0_hasWatermark_12 : decode cX0_hasWatermark 12 = .ok (.iconst 1, 1) := by decide +kernel
theorem dX0_hasWatermark_13 : decode cX0_hasWatermark 13 = .ok (.goto 4, 3) := by decide +kernel
abbrev mX0_printerNamed : zM := (yX0_printerNamed, cX0_printerNamed, 3, (some .int), [])
theorem okX0_printerNamed : zMok mX0_printerNamed 1 := ⟨by decide, by decide, by decide +kernel⟩
theorem dX0_printerNamed_0 : decode cX0_printerNamed 0 = .ok (.iconst 0, 1) := by decide +kernel
theorem dX0_printerNamed_1 : decode cX0_printerNamed 1 = .ok (.istore_n 2, 1) := by decide +kernel
theorem dX0_printerNamed_2 : decode cX0_printerNamed 2 = .ok (.iload_n 2, 1) := by decide +kernel
theorem dX0_printerNamed_3 : decode cX0_printerNamed 3 = .ok (.aload_n 0, 1) := by decide +kernel
theorem dX0_printerNamed_4 : decode cX0_printerNamed 4 = .ok (.getfield 9, 3) := by decide +kernel
theorem dX0_printerNamed_7 : decode cX0_printerNamed 7 = .ok (.if_icmp .ge 21, 3) := by decide +kernel
theorem dX0_printerNamed_28 : decode cX0_printerNamed 28 = .ok (.iconst (-1), 1) := by decide +kernel
theorem dX0_printerNamed_29 : decode cX0_printerNamed 29 = .ok (.ireturn, 1) := by decide +kernel
theorem dX0_printerNamed_10 : decode cX0_printerNamed 10 = .ok (.aload_n 0, 1) := by decide +kernel
theorem dX0_printerNamed_11 : decode cX0_printerNamed 11 = .ok (.getfield 15, 3) := by decide +kernel
theorem fl_RX0_15 : zFl RX0 15 0 1 := ⟨RX0, TX0, 13, rfl, by decide, zmem1 108 (by decide +kernel) rfl, rfl⟩
theorem dX0_printerNamed_14 : decode cX0_printerNamed 14 = .ok (.iload_n 2, 1) := by decide +kernel
theorem dX0_printerNamed_15 : decode cX0_printerNamed 15 = .ok (.iaload, 1) := by decide +kernel
theorem dX0_printerNamed_16 : decode cX0_printerNamed 16 = .ok (.iload_n 1, 1) := by decide +kernel
theorem dX0_printerNamed_17 : decode cX0_printerNamed 17 = .ok (.if_icmp .ne 5, 3) := by decide +kernel
theorem dX0_printerNamed_22 : decode cX0_printerNamed 22 = .ok (.iinc 2 1, 3) := by decide +kernel
theorem dX0_printerNamed_25 : decode cX0_printerNamed 25 = .ok (.goto (-23), 3) := by decide +kernel
theorem dX0_printerNamed_20 : decode cX0_printerNamed 20 = .ok (.iload_n 2, 1) := by decide +kernel
theorem dX0_printerNamed_21 : decode cX0_printerNamed 21 = .ok (.ireturn, 1) := by decide +kernel
abbrev mX0_worksIn : zM := (yX0_worksIn, cX0_worksIn, 3, (some .boolean), [])
theorem okX0_worksIn : zMok mX0_worksIn 2 := ⟨by decide, by decide, by decide +kernel⟩
theorem dX0_worksIn_0 : decode cX0_worksIn 0 = .ok (.aload_n 0, 1) := by decide +kernel
theorem dX0_worksIn_1 : decode cX0_worksIn 1 = .ok (.iload_n 1, 1) := by decide +kernel
theorem dX0_worksIn_2 : decode cX0_worksIn 2 = .ok (.invokevirtual 58, 3) := by decide +kernel
theorem cw_RX0_58 : zCwV RX0 58 mX0_hasPrinter := zall [527, 528, 529, 35, 530] (by decide +kernel) (by decide +kernel)
theorem dX0_worksIn_5 : decode cX0_worksIn 5 = .ok (.ifCond .eq 26, 3) := by decide +kernel
theorem dX0_worksIn_31 : decode cX0_worksIn 31 = .ok (.iconst 0, 1) := by decide +kernel
theorem dX0_worksIn_32 : decode cX0_worksIn 32 = .ok (.ireturn, 1) := by decide +kernel
theorem dX0_worksIn_8 : decode cX0_worksIn 8 = .ok (.iload_n 2, 1) := by decide +kernel
theorem dX0_worksIn_9 : decode cX0_worksIn 9 = .ok (.aload_n 0, 1) := by decide +kernel
theorem dX0_worksIn_10 : decode cX0_worksIn 10 = .ok (.getfield 22, 3) := by decide +kernel
theorem fl_RX0_22 : zFl RX0 22 0 3 := ⟨RX0, TX0, 13, rfl, by decide, zmem1 112 (by decide +kernel) rfl, rfl⟩
theorem dX0_worksIn_13 : decode cX0_worksIn 13 = .ok (.iload_n 1, 1) := by decide +kernel
theorem dX0_worksIn_14 : decode cX0_worksIn 14 = .ok (.iaload, 1) := by decide +kernel
theorem dX0_worksIn_15 : decode cX0_worksIn 15 = .ok (.aload_n 0, 1) := by decide +kernel
theorem dX0_worksIn_16 : decode cX0_worksIn 16 = .ok (.getfield 25, 3) := by decide +kernel
theorem fl_RX0_25 : zFl RX0 25 0 4 := ⟨RX0, TX0, 13, rfl, by decide, zmem1 115 (by decide +kernel) rfl, rfl⟩
theorem dX0_worksIn_19 : decode cX0_worksIn 19 = .ok (.iload_n 1, 1) := by decide +kernel
theorem dX0_worksIn_20 : decode cX0_worksIn 20 = .ok (.iaload, 1) := by decide +kernel
theorem dX0_worksIn_21 : decode cX0_worksIn 21 = .ok (.invokestatic 62, 3) := by decide +kernel
theorem cw_RX0_62 : zCwN RX0 62 mX9_isWithin := ⟨⟨_, List.mem_of_getElem? (i := 12) rfl⟩, zall [420, 31, 421] (by decide +kernel) (by decide +kernel)⟩
theorem dX0_worksIn_24 : decode cX0_worksIn 24 = .ok (.ifCond .eq 7, 3) := by decide +kernel
theorem dX0_worksIn_27 : decode cX0_worksIn 27 = .ok (.iconst 1, 1) := by decide +kernel
theorem dX0_worksIn_28 : decode cX0_worksIn 28 = .ok (.goto 4, 3) := by decide +kernel
abbrev mX0_ownsDevice : zM := (yX0_ownsDevice, cX0_ownsDevice, 3, (some .boolean), [])
theorem okX0_ownsDevice : zMok mX0_ownsDevice 2 := ⟨by decide, by decide, by decide +kernel⟩
theorem dX0_ownsDevice_0 : decode cX0_ownsDevice 0 = .ok (.aload_n 0, 1) := by decide +kernel
theorem dX0_ownsDevice_1 : decode cX0_ownsDevice 1 = .ok (.iload_n 1, 1) := by decide +kernel
theorem dX0_ownsDevice_2 : decode cX0_ownsDevice 2 = .ok (.invokevirtual 58, 3) := by decide +kernel
theorem dX0_ownsDevice_5 : decode cX0_ownsDevice 5 = .ok (.ifCond .eq 30, 3) := by decide +kernel
theorem dX0_ownsDevice_35 : decode cX0_ownsDevice 35 = .ok (.iconst 0, 1) := by decide +kernel
theorem dX0_ownsDevice_36 : decode cX0_ownsDevice 36 = .ok (.ireturn, 1) := by decide +kernel
theorem dX0_ownsDevice_8 : decode cX0_ownsDevice 8 = .ok (.iload_n 2, 1) := by decide +kernel
theorem dX0_ownsDevice_9 : decode cX0_ownsDevice 9 = .ok (.iconst 0, 1) := by decide +kernel
theorem dX0_ownsDevice_10 : decode cX0_ownsDevice 10 = .ok (.bipush 31, 2) := by decide +kernel
theorem dX0_ownsDevice_12 : decode cX0_ownsDevice 12 = .ok (.invokestatic 62, 3) := by decide +kernel
theorem dX0_ownsDevice_15 : decode cX0_ownsDevice 15 = .ok (.ifCond .eq 20, 3) := by decide +kernel
theorem dX0_ownsDevice_18 : decode cX0_ownsDevice 18 = .ok (.aload_n 0, 1) := by decide +kernel
theorem dX0_ownsDevice_19 : decode cX0_ownsDevice 19 = .ok (.getfield 28, 3) := by decide +kernel
theorem fl_RX0_28 : zFl RX0 28 0 5 := ⟨RX0, TX0, 13, rfl, by decide, zmem1 118 (by decide +kernel) rfl, rfl⟩
theorem dX0_ownsDevice_22 : decode cX0_ownsDevice 22 = .ok (.iload_n 1, 1) := by decide +kernel
theorem dX0_ownsDevice_23 : decode cX0_ownsDevice 23 = .ok (.iaload, 1) := by decide +kernel
theorem dX0_ownsDevice_24 : decode cX0_ownsDevice 24 = .ok (.iload_n 2, 1) := by decide +kernel
theorem dX0_ownsDevice_25 : decode cX0_ownsDevice 25 = .ok (.iushr, 1) := by decide +kernel
theorem dX0_ownsDevice_26 : decode cX0_ownsDevice 26 = .ok (.iconst 1, 1) := by decide +kernel
theorem dX0_ownsDevice_27 : decode cX0_ownsDevice 27 = .ok (.iand, 1) := by decide +kernel
theorem dX0_ownsDevice_28 : decode cX0_ownsDevice 28 = .ok (.ifCond .eq 7, 3) := by decide +kernel
theorem dX0_ownsDevice_31 : decode cX0_ownsDevice 31 = .ok (.iconst 1, 1) := by decide +kernel
theorem dX0_ownsDevice_32 : decode cX0_ownsDevice 32 = .ok (.goto 4, 3) := by decide +kernel
abbrev mX0_ownsTypeface : zM := (yX0_ownsTypeface, cX0_ownsTypeface, 3, (some .boolean), [])
theorem okX0_ownsTypeface : zMok mX0_ownsTypeface 2 := ⟨by decide, by decide, by decide +kernel⟩
theorem dX0_ownsTypeface_0 : decode cX0_ownsTypeface 0 = .ok (.aload_n 0, 1) := by decide +kernel
theorem dX0_ownsTypeface_1 : decode cX0_ownsTypeface 1 = .ok (.iload_n 1, 1) := by decide +kernel
theorem dX0_ownsTypeface_2 : decode cX0_ownsTypeface 2 = .ok (.invokevirtual 58, 3) := by decide +kernel
theorem dX0_ownsTypeface_5 : decode cX0_ownsTypeface 5 = .ok (.ifCond .eq 30, 3) := by decide +kernel
theorem dX0_ownsTypeface_35 : decode cX0_ownsTypeface 35 = .ok (.iconst 0, 1) := by decide +kernel
theorem dX0_ownsTypeface_36 : decode cX0_ownsTypeface 36 = .ok (.ireturn, 1) := by decide +kernel
theorem dX0_ownsTypeface_8 : decode cX0_ownsTypeface 8 = .ok (.iload_n 2, 1) := by decide +kernel
theorem dX0_ownsTypeface_9 : decode cX0_ownsTypeface 9 = .ok (.iconst 0, 1) := by decide +kernel
theorem dX0_ownsTypeface_10 : decode cX0_ownsTypeface 10 = .ok (.bipush 15, 2) := by decide +kernel
theorem dX0_ownsTypeface_12 : decode cX0_ownsTypeface 12 = .ok (.invokestatic 62, 3) := by decide +kernel
theorem dX0_ownsTypeface_15 : decode cX0_ownsTypeface 15 = .ok (.ifCond .eq 20, 3) := by decide +kernel
theorem dX0_ownsTypeface_18 : decode cX0_ownsTypeface 18 = .ok (.aload_n 0, 1) := by decide +kernel
theorem dX0_ownsTypeface_19 : decode cX0_ownsTypeface 19 = .ok (.getfield 31, 3) := by decide +kernel
theorem fl_RX0_31 : zFl RX0 31 0 6 := ⟨RX0, TX0, 13, rfl, by decide, zmem1 119 (by decide +kernel) rfl, rfl⟩
theorem dX0_ownsTypeface_22 : decode cX0_ownsTypeface 22 = .ok (.iload_n 1, 1) := by decide +kernel
theorem dX0_ownsTypeface_23 : decode cX0_ownsTypeface 23 = .ok (.iaload, 1) := by decide +kernel
theorem dX0_ownsTypeface_24 : decode cX0_ownsTypeface 24 = .ok (.iload_n 2, 1) := by decide +kernel
theorem dX0_ownsTypeface_25 : decode cX0_ownsTypeface 25 = .ok (.iushr, 1) := by decide +kernel
theorem dX0_ownsTypeface_26 : decode cX0_ownsTypeface 26 = .ok (.iconst 1, 1) := by decide +kernel
theorem dX0_ownsTypeface_27 : decode cX0_ownsTypeface 27 = .ok (.iand, 1) := by decide +kernel
theorem dX0_ownsTypeface_28 : decode cX0_ownsTypeface 28 = .ok (.ifCond .eq 7, 3) := by decide +kernel
theorem dX0_ownsTypeface_31 : decode cX0_ownsTypeface 31 = .ok (.iconst 1, 1) := by decide +kernel
theorem dX0_ownsTypeface_32 : decode cX0_ownsTypeface 32 = .ok (.goto 4, 3) := by decide +kernel
abbrev mX0_ownersOf : zM := (yX0_ownersOf, cX0_ownersOf, 4, (some .int), [])
theorem okX0_ownersOf : zMok mX0_ownersOf 1 := ⟨by decide, by decide, by decide +kernel⟩
theorem dX0_ownersOf_0 : decode cX0_ownersOf 0 = .ok (.iconst 0, 1) := by decide +kernel
theorem dX0_ownersOf_1 : decode cX0_ownersOf 1 = .ok (.istore_n 2, 1) := by decide +kernel
theorem dX0_ownersOf_2 : decode cX0_ownersOf 2 = .ok (.iconst 0, 1) := by decide +kernel
theorem dX0_ownersOf_3 : decode cX0_ownersOf 3 = .ok (.istore_n 3, 1) := by decide +kernel
theorem dX0_ownersOf_4 : decode cX0_ownersOf 4 = .ok (.iload_n 3, 1) := by decide +kernel
theorem dX0_ownersOf_5 : decode cX0_ownersOf 5 = .ok (.aload_n 0, 1) := by decide +kernel
theorem dX0_ownersOf_6 : decode cX0_ownersOf 6 = .ok (.getfield 9, 3) := by decide +kernel
theorem dX0_ownersOf_9 : decode cX0_ownersOf 9 = .ok (.if_icmp .ge 21, 3) := by decide +kernel
theorem dX0_ownersOf_30 : decode cX0_ownersOf 30 = .ok (.iload_n 2, 1) := by decide +kernel
theorem dX0_ownersOf_31 : decode cX0_ownersOf 31 = .ok (.ireturn, 1) := by decide +kernel
theorem dX0_ownersOf_12 : decode cX0_ownersOf 12 = .ok (.aload_n 0, 1) := by decide +kernel
theorem dX0_ownersOf_13 : decode cX0_ownersOf 13 = .ok (.iload_n 3, 1) := by decide +kernel
theorem dX0_ownersOf_14 : decode cX0_ownersOf 14 = .ok (.iload_n 1, 1) := by decide +kernel
theorem dX0_ownersOf_15 : decode cX0_ownersOf 15 = .ok (.invokevirtual 66, 3) := by decide +kernel
theorem cw_RX0_66 : zCwV RX0 66 mX0_ownsDevice := zall [988, 898, 899, 35, 900] (by decide +kernel) (by decide +kernel)
theorem dX0_ownersOf_18 : decode cX0_ownersOf 18 = .ok (.ifCond .eq 6, 3) := by decide +kernel
theorem dX0_ownersOf_24 : decode cX0_ownersOf 24 = .ok (.iinc 3 1, 3) := by decide +kernel
theorem dX0_ownersOf_27 : decode cX0_ownersOf 27 = .ok (.goto (-23), 3) := by decide +kernel
theorem dX0_ownersOf_21 : decode cX0_ownersOf 21 = .ok (.iinc 2 1, 3) := by decide +kernel
abbrev mX0_watermarkFrom : zM := (yX0_watermarkFrom, cX0_watermarkFrom, 2, (some .int), [])
theorem okX0_watermarkFrom : zMok mX0_watermarkFrom 1 := ⟨by decide, by decide, by decide +kernel⟩
theorem dX0_watermarkFrom_0 : decode cX0_watermarkFrom 0 = .ok (.aload_n 0, 1) := by decide +kernel
theorem dX0_watermarkFrom_1 : decode cX0_watermarkFrom 1 = .ok (.iload_n 1, 1) := by decide +kernel
theorem dX0_watermarkFrom_2 : decode cX0_watermarkFrom 2 = .ok (.invokevirtual 70, 3) := by decide +kernel
theorem cw_RX0_70 : zCwV RX0 70 mX0_hasWatermark := zall [865, 866, 867, 35, 868] (by decide +kernel) (by decide +kernel)
theorem dX0_watermarkFrom_5 : decode cX0_watermarkFrom 5 = .ok (.ifCond .eq 12, 3) := by decide +kernel
theorem dX0_watermarkFrom_17 : decode cX0_watermarkFrom 17 = .ok (.sipush 1450, 3) := by decide +kernel
theorem dX0_watermarkFrom_20 : decode cX0_watermarkFrom 20 = .ok (.ireturn, 1) := by decide +kernel
theorem dX0_watermarkFrom_8 : decode cX0_watermarkFrom 8 = .ok (.aload_n 0, 1) := by decide +kernel
theorem dX0_watermarkFrom_9 : decode cX0_watermarkFrom 9 = .ok (.getfield 37, 3) := by decide +kernel
theorem fl_RX0_37 : zFl RX0 37 0 8 := ⟨RX0, TX0, 13, rfl, by decide, zmem1 122 (by decide +kernel) rfl, rfl⟩
theorem dX0_watermarkFrom_12 : decode cX0_watermarkFrom 12 = .ok (.iload_n 1, 1) := by decide +kernel
theorem dX0_watermarkFrom_13 : decode cX0_watermarkFrom 13 = .ok (.iaload, 1) := by decide +kernel
theorem dX0_watermarkFrom_14 : decode cX0_watermarkFrom 14 = .ok (.goto 6, 3) := by decide +kernel
abbrev mX0_watermarkUntil : zM := (yX0_watermarkUntil, cX0_watermarkUntil, 2, (some .int), [])
theorem okX0_watermarkUntil : zMok mX0_watermarkUntil 1 := ⟨by decide, by decide, by decide +kernel⟩
theorem dX0_watermarkUntil_0 : decode cX0_watermarkUntil 0 = .ok (.aload_n 0, 1) := by decide +kernel
theorem dX0_watermarkUntil_1 : decode cX0_watermarkUntil 1 = .ok (.iload_n 1, 1) := by decide +kernel
theorem dX0_watermarkUntil_2 : decode cX0_watermarkUntil 2 = .ok (.invokevirtual 70, 3) := by decide +kernel
theorem dX0_watermarkUntil_5 : decode cX0_watermarkUntil 5 = .ok (.ifCond .eq 14, 3) := by decide +kernel
theorem dX0_watermarkUntil_19 : decode cX0_watermarkUntil 19 = .ok (.sipush 1999, 3) := by decide +kernel
theorem dX0_watermarkUntil_22 : decode cX0_watermarkUntil 22 = .ok (.ireturn, 1) := by decide +kernel
theorem dX0_watermarkUntil_8 : decode cX0_watermarkUntil 8 = .ok (.aload_n 0, 1) := by decide +kernel
theorem dX0_watermarkUntil_9 : decode cX0_watermarkUntil 9 = .ok (.getfield 40, 3) := by decide +kernel
theorem fl_RX0_40 : zFl RX0 40 0 9 := ⟨RX0, TX0, 13, rfl, by decide, zmem1 123 (by decide +kernel) rfl, rfl⟩
theorem dX0_watermarkUntil_12 : decode cX0_watermarkUntil 12 = .ok (.iload_n 1, 1) := by decide +kernel
theorem dX0_watermarkUntil_13 : decode cX0_watermarkUntil 13 = .ok (.iaload, 1) := by decide +kernel
theorem dX0_watermarkUntil_14 : decode cX0_watermarkUntil 14 = .ok (.iconst 3, 1) := by decide +kernel
theorem dX0_watermarkUntil_15 : decode cX0_watermarkUntil 15 = .ok (.iadd, 1) := by decide +kernel
theorem dX0_watermarkUntil_16 : decode cX0_watermarkUntil 16 = .ok (.goto 6, 3) := by decide +kernel
abbrev mX0_lowestValue : zM := (yX0_lowestValue, cX0_lowestValue, 1, (some .int), [])
theorem okX0_lowestValue : zMok mX0_lowestValue 1 := ⟨by decide, by decide, by decide +kernel⟩
theorem dX0_lowestValue_0 : decode cX0_lowestValue 0 = .ok (.iload_n 0, 1) := by decide +kernel
theorem dX0_lowestValue_1 : decode cX0_lowestValue 1 = .ok (.iconst 4, 1) := by decide +kernel
theorem dX0_lowestValue_2 : decode cX0_lowestValue 2 = .ok (.if_icmp .ne 9, 3) := by decide +kernel
theorem dX0_lowestValue_11 : decode cX0_lowestValue 11 = .ok (.iconst 0, 1) := by decide +kernel
theorem dX0_lowestValue_12 : decode cX0_lowestValue 12 = .ok (.ireturn, 1) := by decide +kernel
theorem dX0_lowestValue_5 : decode cX0_lowestValue 5 = .ok (.sipush 1450, 3) := by decide +kernel
theorem dX0_lowestValue_8 : decode cX0_lowestValue 8 = .ok (.goto 4, 3) := by decide +kernel
abbrev mX0_highestValue : zM := (yX0_highestValue, cX0_highestValue, 2, (some .int), [])
theorem okX0_highestValue : zMok mX0_highestValue 1 := ⟨by decide, by decide, by decide +kernel⟩
theorem dX0_highestValue_0 : decode cX0_highestValue 0 = .ok (.iload_n 1, 1) := by decide +kernel
theorem dX0_highestValue_1 : decode cX0_highestValue 1 = .ok (.tableswitch 47 0 3 #[31, 34, 37, 44], 31) := by decide +kernel
theorem dX0_highestValue_32 : decode cX0_highestValue 32 = .ok (.bipush 31, 2) := by decide +kernel
theorem dX0_highestValue_34 : decode cX0_highestValue 34 = .ok (.ireturn, 1) := by decide +kernel
theorem dX0_highestValue_35 : decode cX0_highestValue 35 = .ok (.bipush 15, 2) := by decide +kernel
theorem dX0_highestValue_37 : decode cX0_highestValue 37 = .ok (.ireturn, 1) := by decide +kernel
theorem dX0_highestValue_38 : decode cX0_highestValue 38 = .ok (.aload_n 0, 1) := by decide +kernel
theorem dX0_highestValue_39 : decode cX0_highestValue 39 = .ok (.getfield 34, 3) := by decide +kernel
theorem dX0_highestValue_42 : decode cX0_highestValue 42 = .ok (.iconst 1, 1) := by decide +kernel
theorem dX0_highestValue_43 : decode cX0_highestValue 43 = .ok (.isub, 1) := by decide +kernel
theorem dX0_highestValue_44 : decode cX0_highestValue 44 = .ok (.ireturn, 1) := by decide +kernel
theorem dX0_highestValue_45 : decode cX0_highestValue 45 = .ok (.bipush 9, 2) := by decide +kernel
theorem dX0_highestValue_47 : decode cX0_highestValue 47 = .ok (.ireturn, 1) := by decide +kernel
theorem dX0_highestValue_48 : decode cX0_highestValue 48 = .ok (.sipush 1999, 3) := by decide +kernel
theorem dX0_highestValue_51 : decode cX0_highestValue 51 = .ok (.ireturn, 1) := by decide +kernel

set_option maxRecDepth 20000 in
set_option maxHeartbeats 2000000 in
theorem sX9_isWithin {l : Launch} {w : zW} (hfl : l.stackTraces = false) {σ : zS} {x y u : Int} (hz : zOK σ) (hx : zr x) (hy : zr y) (hu : zr u) : Sp l w mX9_isWithin 0 0 [zi x, zi y, zi u] σ (zret (zi (zb (y ≤ x ∧ x ≤ u))) σ) := by
  obtain ⟨Q, hQ⟩ : ∃ Q : zQ, Q = (zret (zi (zb (y ≤ x ∧ x ≤ u))) σ) := ⟨_, rfl⟩
  rw [← hQ]
  refine zx_enter hfl (by decide) rfl 0 rfl ?_
  show zX l w mX9_isWithin (zMQ w 0 0 Q) 0 [zi x, zi y, zi u] [] 0 σ
  refine zx_iloadN dX9_isWithin_0 rfl rfl ?_
  refine zx_iloadN dX9_isWithin_1 rfl rfl ?_
  refine zx_icmp_lt (tgt := 14) (by first | exact hz _ _ | assumption | exact zr_b _ | exact zcmp_r _ _ | (unfold zr at *; omega)) (by first | exact hz _ _ | assumption | exact zr_b _ | exact zcmp_r _ _ | (unfold zr at *; omega)) dX9_isWithin_2 (by decide) (fun h2 => ?_) (fun h2 => ?_)
  · refine zx_iconst dX9_isWithin_14 ?_
    refine zx_iret rfl rfl dX9_isWithin_15 ?_
    rw [hQ]
    refine ⟨congrArg (fun z : Int => (Sum.inl (some (zi z)) : Option zV ⊕ String)) ?_, by first | rfl | (exfalso; omega)⟩
    first | rfl | exact (zb_t (by first | assumption | omega)).symm | exact (zb_f (by first | assumption | omega)).symm | exact zb_c (by constructor <;> intro q <;> omega)
  · refine zx_iloadN dX9_isWithin_5 rfl rfl ?_
    refine zx_iloadN dX9_isWithin_6 rfl rfl ?_
    refine zx_icmp_gt (tgt := 14) (by first | exact hz _ _ | assumption | exact zr_b _ | exact zcmp_r _ _ | (unfold zr at *; omega)) (by first | exact hz _ _ | assumption | exact zr_b _ | exact zcmp_r _ _ | (unfold zr at *; omega)) dX9_isWithin_7 (by decide) (fun h7 => ?_) (fun h7 => ?_)
    · refine zx_iconst dX9_isWithin_14 ?_
      refine zx_iret rfl rfl dX9_isWithin_15 ?_
      rw [hQ]
      refine ⟨congrArg (fun z : Int => (Sum.inl (some (zi z)) : Option zV ⊕ String)) ?_, by first | rfl | (exfalso; omega)⟩
      first | rfl | exact (zb_t (by first | assumption | omega)).symm | exact (zb_f (by first | assumption | omega)).symm | exact zb_c (by constructor <;> intro q <;> omega)
    · refine zx_iconst dX9_isWithin_10 ?_
      refine zx_goto (tgt := 15) dX9_isWithin_11 (by decide) ?_
      refine zx_iret rfl rfl dX9_isWithin_15 ?_
      rw [hQ]
      refine ⟨congrArg (fun z : Int => (Sum.inl (some (zi z)) : Option zV ⊕ String)) ?_, by first | rfl | (exfalso; omega)⟩
      first | rfl | exact (zb_t (by first | assumption | omega)).symm | exact (zb_f (by first | assumption | omega)).symm | exact zb_c (by constructor <;> intro q <;> omega)
set_option maxRecDepth 20000 in
set_option maxHeartbeats 2000000 in
theorem sX2_has {l : Launch} {w : zW} (hfl : l.stackTraces = false) {σ : zS} {c : Nat}{x : Int} (hz : zOK σ) (hx : zr x) : Sp l w mX2_has 0 0 [zf 2 c, zi x] σ (zret (zi (zb (0 ≤ x ∧ x < σ.1 c 0))) σ) := by
  obtain ⟨Q, hQ⟩ : ∃ Q : zQ, Q = (zret (zi (zb (0 ≤ x ∧ x < σ.1 c 0))) σ) := ⟨_, rfl⟩
  rw [← hQ]
  refine zx_enter hfl (by decide) rfl 0 rfl ?_
  show zX l w mX2_has (zMQ w 0 0 Q) 0 [zf 2 c, zi x] [] 0 σ
  refine zx_iloadN dX2_has_0 rfl rfl ?_
  refine zx_if_lt (tgt := 16) (by first | exact hz _ _ | assumption | exact zr_b _ | exact zcmp_r _ _ | (unfold zr at *; omega)) dX2_has_1 (by decide) (fun h1 => ?_) (fun h1 => ?_)
  · refine zx_iconst dX2_has_16 ?_
    refine zx_iret rfl rfl dX2_has_17 ?_
    rw [hQ]
    refine ⟨congrArg (fun z : Int => (Sum.inl (some (zi z)) : Option zV ⊕ String)) ?_, by first | rfl | (exfalso; omega)⟩
    first | rfl | exact (zb_t (by first | assumption | omega)).symm | exact (zb_f (by first | assumption | omega)).symm | exact zb_c (by constructor <;> intro q <;> omega)
  · refine zx_iloadN dX2_has_4 rfl rfl ?_
    refine zx_aloadN dX2_has_5 rfl rfl ?_
    refine zy_getI fl_RX2_9 rfl dX2_has_6 rfl ?_
    refine zx_icmp_ge (tgt := 16) (by first | exact hz _ _ | assumption | exact zr_b _ | exact zcmp_r _ _ | (unfold zr at *; omega)) (by first | exact hz _ _ | assumption | exact zr_b _ | exact zcmp_r _ _ | (unfold zr at *; omega)) dX2_has_9 (by decide) (fun h9 => ?_) (fun h9 => ?_)
    · refine zx_iconst dX2_has_16 ?_
      refine zx_iret rfl rfl dX2_has_17 ?_
      rw [hQ]
      refine ⟨congrArg (fun z : Int => (Sum.inl (some (zi z)) : Option zV ⊕ String)) ?_, by first | rfl | (exfalso; omega)⟩
      first | rfl | exact (zb_t (by first | assumption | omega)).symm | exact (zb_f (by first | assumption | omega)).symm | exact zb_c (by constructor <;> intro q <;> omega)
    · refine zx_iconst dX2_has_12 ?_
      refine zx_goto (tgt := 17) dX2_has_13 (by decide) ?_
      refine zx_iret rfl rfl dX2_has_17 ?_
      rw [hQ]
      refine ⟨congrArg (fun z : Int => (Sum.inl (some (zi z)) : Option zV ⊕ String)) ?_, by first | rfl | (exfalso; omega)⟩
      first | rfl | exact (zb_t (by first | assumption | omega)).symm | exact (zb_f (by first | assumption | omega)).symm | exact zb_c (by constructor <;> intro q <;> omega)
set_option maxRecDepth 20000 in
set_option maxHeartbeats 2000000 in
theorem sX2_isFull {l : Launch} {w : zW} (hfl : l.stackTraces = false) {σ : zS} {c : Nat} (hz : zOK σ)  : Sp l w mX2_isFull 0 0 [zf 2 c] σ (zret (zi (zb (σ.1 c 0 < 0 ∨ 40 ≤ σ.1 c 0))) σ) := by
  obtain ⟨Q, hQ⟩ : ∃ Q : zQ, Q = (zret (zi (zb (σ.1 c 0 < 0 ∨ 40 ≤ σ.1 c 0))) σ) := ⟨_, rfl⟩
  rw [← hQ]
  refine zx_enter hfl (by decide) rfl 0 rfl ?_
  show zX l w mX2_isFull (zMQ w 0 0 Q) 0 [zf 2 c] [] 0 σ
  refine zx_aloadN dX2_isFull_0 rfl rfl ?_
  refine zy_getI fl_RX2_9 rfl dX2_isFull_1 rfl ?_
  refine zx_if_lt (tgt := 16) (by first | exact hz _ _ | assumption | exact zr_b _ | exact zcmp_r _ _ | (unfold zr at *; omega)) dX2_isFull_4 (by decide) (fun h4 => ?_) (fun h4 => ?_)
  · refine zx_iconst dX2_isFull_16 ?_
    refine zx_goto (tgt := 21) dX2_isFull_17 (by decide) ?_
    refine zx_iret rfl rfl dX2_isFull_21 ?_
    rw [hQ]
    refine ⟨congrArg (fun z : Int => (Sum.inl (some (zi z)) : Option zV ⊕ String)) ?_, by first | rfl | (exfalso; omega)⟩
    first | rfl | exact (zb_t (by first | assumption | omega)).symm | exact (zb_f (by first | assumption | omega)).symm | exact zb_c (by constructor <;> intro q <;> omega)
  · refine zx_aloadN dX2_isFull_7 rfl rfl ?_
    refine zy_getI fl_RX2_9 rfl dX2_isFull_8 rfl ?_
    refine zx_bipush dX2_isFull_11 rfl ?_
    refine zx_icmp_lt (tgt := 20) (by first | exact hz _ _ | assumption | exact zr_b _ | exact zcmp_r _ _ | (unfold zr at *; omega)) (by first | exact hz _ _ | assumption | exact zr_b _ | exact zcmp_r _ _ | (unfold zr at *; omega)) dX2_isFull_13 (by decide) (fun h13 => ?_) (fun h13 => ?_)
    · refine zx_iconst dX2_isFull_20 ?_
      refine zx_iret rfl rfl dX2_isFull_21 ?_
      rw [hQ]
      refine ⟨congrArg (fun z : Int => (Sum.inl (some (zi z)) : Option zV ⊕ String)) ?_, by first | rfl | (exfalso; omega)⟩
      first | rfl | exact (zb_t (by first | assumption | omega)).symm | exact (zb_f (by first | assumption | omega)).symm | exact zb_c (by constructor <;> intro q <;> omega)
    · refine zx_iconst dX2_isFull_16 ?_
      refine zx_goto (tgt := 21) dX2_isFull_17 (by decide) ?_
      refine zx_iret rfl rfl dX2_isFull_21 ?_
      rw [hQ]
      refine ⟨congrArg (fun z : Int => (Sum.inl (some (zi z)) : Option zV ⊕ String)) ?_, by first | rfl | (exfalso; omega)⟩
      first | rfl | exact (zb_t (by first | assumption | omega)).symm | exact (zb_f (by first | assumption | omega)).symm | exact zb_c (by constructor <;> intro q <;> omega)
set_option maxRecDepth 20000 in
set_option maxHeartbeats 2000000 in
theorem sX2_clueAt {l : Launch} {w : zW} (hfl : l.stackTraces = false) {σ : zS} {c : Nat}{x : Int} (hz : zOK σ) (hx : zr x) (hK : 0 ≤ σ.1 c 0 ∧ σ.1 c 0 ≤ 40) : Sp l w mX2_clueAt 0 0 [zf 2 c, zi x] σ (zret (zi (if 0 ≤ x ∧ x < σ.1 c 0 then σ.1 (c + 7) x.toNat else -1)) σ) := by
  obtain ⟨Q, hQ⟩ : ∃ Q : zQ, Q = (zret (zi (if 0 ≤ x ∧ x < σ.1 c 0 then σ.1 (c + 7) x.toNat else -1)) σ) := ⟨_, rfl⟩
  rw [← hQ]
  refine zx_enter hfl (by decide) rfl 0 rfl ?_
  show zX l w mX2_clueAt (zMQ w 0 0 Q) 0 [zf 2 c, zi x] [] 0 σ
  refine zx_iloadN dX2_clueAt_0 rfl rfl ?_
  refine zx_if_lt (tgt := 21) (by first | exact hz _ _ | assumption | exact zr_b _ | exact zcmp_r _ _ | (unfold zr at *; omega)) dX2_clueAt_1 (by decide) (fun h1 => ?_) (fun h1 => ?_)
  · refine zx_iconst dX2_clueAt_21 ?_
    refine zx_iret rfl rfl dX2_clueAt_22 ?_
    rw [hQ]
    refine ⟨congrArg (fun z : Int => (Sum.inl (some (zi z)) : Option zV ⊕ String)) ?_, by first | rfl | (exfalso; omega)⟩
    first | exact (if_pos (by omega)).symm | exact (if_neg (by omega)).symm
  · refine zx_iloadN dX2_clueAt_4 rfl rfl ?_
    refine zx_aloadN dX2_clueAt_5 rfl rfl ?_
    refine zy_getI fl_RX2_9 rfl dX2_clueAt_6 rfl ?_
    refine zx_icmp_ge (tgt := 21) (by first | exact hz _ _ | assumption | exact zr_b _ | exact zcmp_r _ _ | (unfold zr at *; omega)) (by first | exact hz _ _ | assumption | exact zr_b _ | exact zcmp_r _ _ | (unfold zr at *; omega)) dX2_clueAt_9 (by decide) (fun h9 => ?_) (fun h9 => ?_)
    · refine zx_iconst dX2_clueAt_21 ?_
      refine zx_iret rfl rfl dX2_clueAt_22 ?_
      rw [hQ]
      refine ⟨congrArg (fun z : Int => (Sum.inl (some (zi z)) : Option zV ⊕ String)) ?_, by first | rfl | (exfalso; omega)⟩
      first | exact (if_pos (by omega)).symm | exact (if_neg (by omega)).symm
    · refine zx_aloadN dX2_clueAt_12 rfl rfl ?_
      refine zy_getR (q' := c + 7) fl_RX2_35 rfl dX2_clueAt_13 rfl ?_
      refine zx_iloadN dX2_clueAt_16 rfl rfl ?_
      refine zy_iald (v := σ.1 (c + 7) x.toNat) rfl (by decide) (by decide) dX2_clueAt_17 (by omega) (by omega) rfl ?_
      refine zx_goto (tgt := 22) dX2_clueAt_18 (by decide) ?_
      refine zx_iret rfl rfl dX2_clueAt_22 ?_
      rw [hQ]
      refine ⟨congrArg (fun z : Int => (Sum.inl (some (zi z)) : Option zV ⊕ String)) ?_, by first | rfl | (exfalso; omega)⟩
      first | exact (if_pos (by omega)).symm | exact (if_neg (by omega)).symm
set_option maxRecDepth 20000 in
set_option maxHeartbeats 2000000 in
theorem sX2_pageAt {l : Launch} {w : zW} (hfl : l.stackTraces = false) {σ : zS} {c i : Nat} (hz : zOK σ) (hi : (i : Int) < σ.1 c 0) (hK : 0 ≤ σ.1 c 0 ∧ σ.1 c 0 ≤ 40) (hO : 0 ≤ σ.1 (c + 7) i ∧ σ.1 (c + 7) i < σ.1 c 0) : Sp l w mX2_pageAt 1 0 [zf 2 c, zi ((i : Nat) : Int)] σ (zret (zi (σ.1 (c + 1) (σ.1 (c + 7) i).toNat)) σ) := by
  obtain ⟨Q, hQ⟩ : ∃ Q : zQ, Q = (zret (zi (σ.1 (c + 1) (σ.1 (c + 7) i).toNat)) σ) := ⟨_, rfl⟩
  rw [← hQ]
  refine zx_enter hfl (by decide) rfl 1 rfl ?_
  show zX l w mX2_pageAt (zMQ w 1 0 Q) 0 [zf 2 c, zi ((i : Nat) : Int), zu] [] 0 σ
  refine zx_aloadN dX2_pageAt_0 rfl rfl ?_
  refine zx_iloadN dX2_pageAt_1 rfl rfl ?_
  refine zy_cv [zi ((i : Nat) : Int)] (sX2_clueAt  hfl hz (by first | exact hz _ _ | assumption | exact zr_b _ | exact zcmp_r _ _ | (unfold zr at *; omega)) (by first | assumption | omega)) dX2_pageAt_2 (by decide) rfl cw_RX2_52 okX2_clueAt rfl (Nat.le_of_ble_eq_true rfl) ⟨Nat.le_of_ble_eq_true rfl, Nat.le_of_ble_eq_true rfl, Nat.le_of_ble_eq_true rfl, Nat.le_of_ble_eq_true rfl⟩ ?_
  refine zy_top (b := if 0 ≤ ((i : Nat) : Int) ∧ ((i : Nat) : Int) < σ.1 c 0 then σ.1 (c + 7) i else -1) rfl ?_
  refine zy_top (b := σ.1 (c + 7) i) (if_pos (by omega)) ?_
  refine zy_istoreN [zf 2 c, zi ((i : Nat) : Int), zi (σ.1 (c + 7) i)] dX2_pageAt_5 rfl (Nat.le_of_ble_eq_true rfl) (Nat.le_of_ble_eq_true rfl) rfl rfl ?_
  refine zx_aloadN dX2_pageAt_6 rfl rfl ?_
  refine zx_iloadN dX2_pageAt_7 rfl rfl ?_
  refine zy_cv [zi (σ.1 (c + 7) i)] (sX2_has  hfl hz (by first | exact hz _ _ | assumption | exact zr_b _ | exact zcmp_r _ _ | (unfold zr at *; omega))) dX2_pageAt_8 (by decide) rfl cw_RX2_55 okX2_has rfl (Nat.le_of_ble_eq_true rfl) ⟨Nat.le_of_ble_eq_true rfl, Nat.le_of_ble_eq_true rfl, Nat.le_of_ble_eq_true rfl, Nat.le_of_ble_eq_true rfl⟩ ?_
  refine zx_if_eq (tgt := 23) (by first | exact hz _ _ | assumption | exact zr_b _ | exact zcmp_r _ _ | (unfold zr at *; omega)) dX2_pageAt_11 (by decide) (fun h11 => ?_) (fun h11 => ?_)
  · have h11 := zb_0.mp h11
    refine zx_iconst dX2_pageAt_23 ?_
    refine zx_iret rfl rfl dX2_pageAt_24 ?_
    rw [hQ]
    refine ⟨congrArg (fun z : Int => (Sum.inl (some (zi z)) : Option zV ⊕ String)) ?_, by first | rfl | (exfalso; omega)⟩
    first | rfl | omega | (split <;> first | rfl | omega)
  · have h11 := zb_n.mp h11
    refine zx_aloadN dX2_pageAt_14 rfl rfl ?_
    refine zy_getR (q' := c + 1) fl_RX2_15 rfl dX2_pageAt_15 rfl ?_
    refine zx_iloadN dX2_pageAt_18 rfl rfl ?_
    refine zy_iald (v := σ.1 (c + 1) ((σ.1 (c + 7) i).toNat)) rfl (by decide) (by decide) dX2_pageAt_19 (by omega) (by omega) rfl ?_
    refine zx_goto (tgt := 24) dX2_pageAt_20 (by decide) ?_
    refine zx_iret rfl rfl dX2_pageAt_24 ?_
    rw [hQ]
    refine ⟨congrArg (fun z : Int => (Sum.inl (some (zi z)) : Option zV ⊕ String)) ?_, by first | rfl | (exfalso; omega)⟩
    first | rfl | omega | (split <;> first | rfl | omega)
set_option maxRecDepth 20000 in
set_option maxHeartbeats 2000000 in
theorem sX2_isUnread {l : Launch} {w : zW} (hfl : l.stackTraces = false) {σ : zS} {c : Nat}{x : Int} (hz : zOK σ) (hx : zr x) (hK : 0 ≤ σ.1 c 0 ∧ σ.1 c 0 ≤ 40) : Sp l w mX2_isUnread 1 0 [zf 2 c, zi x] σ (zret (zi (zb (0 ≤ x ∧ x < σ.1 c 0 ∧ σ.1 (c + 5) x.toNat = 0))) σ) := by
  obtain ⟨Q, hQ⟩ : ∃ Q : zQ, Q = (zret (zi (zb (0 ≤ x ∧ x < σ.1 c 0 ∧ σ.1 (c + 5) x.toNat = 0))) σ) := ⟨_, rfl⟩
  rw [← hQ]
  refine zx_enter hfl (by decide) rfl 0 rfl ?_
  show zX l w mX2_isUnread (zMQ w 1 0 Q) 0 [zf 2 c, zi x] [] 0 σ
  refine zx_aloadN dX2_isUnread_0 rfl rfl ?_
  refine zx_iloadN dX2_isUnread_1 rfl rfl ?_
  refine zy_cv [zi x] (sX2_has  hfl hz (by first | exact hz _ _ | assumption | exact zr_b _ | exact zcmp_r _ _ | (unfold zr at *; omega))) dX2_isUnread_2 (by decide) rfl cw_RX2_55 okX2_has rfl (Nat.le_of_ble_eq_true rfl) ⟨Nat.le_of_ble_eq_true rfl, Nat.le_of_ble_eq_true rfl, Nat.le_of_ble_eq_true rfl, Nat.le_of_ble_eq_true rfl⟩ ?_
  refine zx_if_eq (tgt := 21) (by first | exact hz _ _ | assumption | exact zr_b _ | exact zcmp_r _ _ | (unfold zr at *; omega)) dX2_isUnread_5 (by decide) (fun h5 => ?_) (fun h5 => ?_)
  · have h5 := zb_0.mp h5
    refine zx_iconst dX2_isUnread_21 ?_
    refine zx_iret rfl rfl dX2_isUnread_22 ?_
    rw [hQ]
    refine ⟨congrArg (fun z : Int => (Sum.inl (some (zi z)) : Option zV ⊕ String)) ?_, by first | rfl | (exfalso; omega)⟩
    first | rfl | exact (zb_t (by first | assumption | omega)).symm | exact (zb_f (by first | assumption | omega)).symm | exact zb_c (by constructor <;> intro q <;> omega)
  · have h5 := zb_n.mp h5
    refine zx_aloadN dX2_isUnread_8 rfl rfl ?_
    refine zy_getR (q' := c + 5) fl_RX2_28 rfl dX2_isUnread_9 rfl ?_
    refine zx_iloadN dX2_isUnread_12 rfl rfl ?_
    refine zy_zald (v := σ.1 (c + 5) x.toNat) rfl (by decide) (by decide) dX2_isUnread_13 (by omega) (by omega) rfl ?_
    refine zx_if_ne (tgt := 21) (by first | exact hz _ _ | assumption | exact zr_b _ | exact zcmp_r _ _ | (unfold zr at *; omega)) dX2_isUnread_14 (by decide) (fun h14 => ?_) (fun h14 => ?_)
    · refine zx_iconst dX2_isUnread_21 ?_
      refine zx_iret rfl rfl dX2_isUnread_22 ?_
      rw [hQ]
      refine ⟨congrArg (fun z : Int => (Sum.inl (some (zi z)) : Option zV ⊕ String)) ?_, by first | rfl | (exfalso; omega)⟩
      first | rfl | exact (zb_t (by first | assumption | omega)).symm | exact (zb_f (by first | assumption | omega)).symm | exact zb_c (by constructor <;> intro q <;> omega)
    · refine zx_iconst dX2_isUnread_17 ?_
      refine zx_goto (tgt := 22) dX2_isUnread_18 (by decide) ?_
      refine zx_iret rfl rfl dX2_isUnread_22 ?_
      rw [hQ]
      refine ⟨congrArg (fun z : Int => (Sum.inl (some (zi z)) : Option zV ⊕ String)) ?_, by first | rfl | (exfalso; omega)⟩
      first | rfl | exact (zb_t (by first | assumption | omega)).symm | exact (zb_f (by first | assumption | omega)).symm | exact zb_c (by constructor <;> intro q <;> omega)
set_option maxRecDepth 20000 in
set_option maxHeartbeats 2000000 in
theorem sX2_counts {l : Launch} {w : zW} (hfl : l.stackTraces = false) {σ : zS} {c : Nat}{x : Int} (hz : zOK σ) (hx : zr x) (hK : 0 ≤ σ.1 c 0 ∧ σ.1 c 0 ≤ 40) : Sp l w mX2_counts 1 0 [zf 2 c, zi x] σ (zret (zi (zb (0 ≤ x ∧ x < σ.1 c 0 ∧ ¬ σ.1 (c + 5) x.toNat = 0 ∧ σ.1 (c + 6) x.toNat = 0))) σ) := by
  obtain ⟨Q, hQ⟩ : ∃ Q : zQ, Q = (zret (zi (zb (0 ≤ x ∧ x < σ.1 c 0 ∧ ¬ σ.1 (c + 5) x.toNat = 0 ∧ σ.1 (c + 6) x.toNat = 0))) σ) := ⟨_, rfl⟩
  rw [← hQ]
  refine zx_enter hfl (by decide) rfl 0 rfl ?_
  show zX l w mX2_counts (zMQ w 1 0 Q) 0 [zf 2 c, zi x] [] 0 σ
  refine zx_aloadN dX2_counts_0 rfl rfl ?_
  refine zx_iloadN dX2_counts_1 rfl rfl ?_
  refine zy_cv [zi x] (sX2_has  hfl hz (by first | exact hz _ _ | assumption | exact zr_b _ | exact zcmp_r _ _ | (unfold zr at *; omega))) dX2_counts_2 (by decide) rfl cw_RX2_55 okX2_has rfl (Nat.le_of_ble_eq_true rfl) ⟨Nat.le_of_ble_eq_true rfl, Nat.le_of_ble_eq_true rfl, Nat.le_of_ble_eq_true rfl, Nat.le_of_ble_eq_true rfl⟩ ?_
  refine zx_if_eq (tgt := 30) (by first | exact hz _ _ | assumption | exact zr_b _ | exact zcmp_r _ _ | (unfold zr at *; omega)) dX2_counts_5 (by decide) (fun h5 => ?_) (fun h5 => ?_)
  · have h5 := zb_0.mp h5
    refine zx_iconst dX2_counts_30 ?_
    refine zx_iret rfl rfl dX2_counts_31 ?_
    rw [hQ]
    refine ⟨congrArg (fun z : Int => (Sum.inl (some (zi z)) : Option zV ⊕ String)) ?_, by first | rfl | (exfalso; omega)⟩
    first | rfl | exact (zb_t (by first | assumption | omega)).symm | exact (zb_f (by first | assumption | omega)).symm | exact zb_c (by constructor <;> intro q <;> omega)
  · have h5 := zb_n.mp h5
    refine zx_aloadN dX2_counts_8 rfl rfl ?_
    refine zy_getR (q' := c + 5) fl_RX2_28 rfl dX2_counts_9 rfl ?_
    refine zx_iloadN dX2_counts_12 rfl rfl ?_
    refine zy_zald (v := σ.1 (c + 5) x.toNat) rfl (by decide) (by decide) dX2_counts_13 (by omega) (by omega) rfl ?_
    refine zx_if_eq (tgt := 30) (by first | exact hz _ _ | assumption | exact zr_b _ | exact zcmp_r _ _ | (unfold zr at *; omega)) dX2_counts_14 (by decide) (fun h14 => ?_) (fun h14 => ?_)
    · refine zx_iconst dX2_counts_30 ?_
      refine zx_iret rfl rfl dX2_counts_31 ?_
      rw [hQ]
      refine ⟨congrArg (fun z : Int => (Sum.inl (some (zi z)) : Option zV ⊕ String)) ?_, by first | rfl | (exfalso; omega)⟩
      first | rfl | exact (zb_t (by first | assumption | omega)).symm | exact (zb_f (by first | assumption | omega)).symm | exact zb_c (by constructor <;> intro q <;> omega)
    · refine zx_aloadN dX2_counts_17 rfl rfl ?_
      refine zy_getR (q' := c + 6) fl_RX2_32 rfl dX2_counts_18 rfl ?_
      refine zx_iloadN dX2_counts_21 rfl rfl ?_
      refine zy_zald (v := σ.1 (c + 6) x.toNat) rfl (by decide) (by decide) dX2_counts_22 (by omega) (by omega) rfl ?_
      refine zx_if_ne (tgt := 30) (by first | exact hz _ _ | assumption | exact zr_b _ | exact zcmp_r _ _ | (unfold zr at *; omega)) dX2_counts_23 (by decide) (fun h23 => ?_) (fun h23 => ?_)
      · refine zx_iconst dX2_counts_30 ?_
        refine zx_iret rfl rfl dX2_counts_31 ?_
        rw [hQ]
        refine ⟨congrArg (fun z : Int => (Sum.inl (some (zi z)) : Option zV ⊕ String)) ?_, by first | rfl | (exfalso; omega)⟩
        first | rfl | exact (zb_t (by first | assumption | omega)).symm | exact (zb_f (by first | assumption | omega)).symm | exact zb_c (by constructor <;> intro q <;> omega)
      · refine zx_iconst dX2_counts_26 ?_
        refine zx_goto (tgt := 31) dX2_counts_27 (by decide) ?_
        refine zx_iret rfl rfl dX2_counts_31 ?_
        rw [hQ]
        refine ⟨congrArg (fun z : Int => (Sum.inl (some (zi z)) : Option zV ⊕ String)) ?_, by first | rfl | (exfalso; omega)⟩
        first | rfl | exact (zb_t (by first | assumption | omega)).symm | exact (zb_f (by first | assumption | omega)).symm | exact zb_c (by constructor <;> intro q <;> omega)
set_option maxRecDepth 20000 in
set_option maxHeartbeats 2000000 in
theorem sX2_firstUnread {l : Launch} {w : zW} (hfl : l.stackTraces = false) {σ : zS} {c : Nat} (hz : zOK σ) (hK : 0 ≤ σ.1 c 0 ∧ σ.1 c 0 ≤ 40) : Sp l w mX2_firstUnread 2 0 [zf 2 c] σ (zret (zi (if zfst (fun i => 0 ≤ σ.1 (c + 7) i ∧ σ.1 (c + 7) i < σ.1 c 0 ∧ σ.1 (c + 5) (σ.1 (c + 7) i).toNat = 0) (σ.1 c 0).toNat = -1 then -1 else σ.1 (c + 7) (zfst (fun i => 0 ≤ σ.1 (c + 7) i ∧ σ.1 (c + 7) i < σ.1 c 0 ∧ σ.1 (c + 5) (σ.1 (c + 7) i).toNat = 0) (σ.1 c 0).toNat).toNat)) σ) := by
  obtain ⟨Q, hQ⟩ : ∃ Q : zQ, Q = (zret (zi (if zfst (fun i => 0 ≤ σ.1 (c + 7) i ∧ σ.1 (c + 7) i < σ.1 c 0 ∧ σ.1 (c + 5) (σ.1 (c + 7) i).toNat = 0) (σ.1 c 0).toNat = -1 then -1 else σ.1 (c + 7) (zfst (fun i => 0 ≤ σ.1 (c + 7) i ∧ σ.1 (c + 7) i < σ.1 c 0 ∧ σ.1 (c + 5) (σ.1 (c + 7) i).toNat = 0) (σ.1 c 0).toNat).toNat)) σ) := ⟨_, rfl⟩
  rw [← hQ]
  refine zx_enter hfl (by decide) rfl 1 rfl ?_
  show zX l w mX2_firstUnread (zMQ w 2 0 Q) 0 [zf 2 c, zu] [] 0 σ
  refine zx_iconst dX2_firstUnread_0 ?_
  refine zy_istoreN [zf 2 c, zi 0] dX2_firstUnread_1 rfl (Nat.le_of_ble_eq_true rfl) (Nat.le_of_ble_eq_true rfl) rfl rfl ?_
  have L2 : ∀ (N : Nat) (i : Nat), ((i : Int) ≤ σ.1 c 0) → (∀ j, j < i → ¬ (0 ≤ σ.1 (c + 7) j ∧ σ.1 (c + 7) j < σ.1 c 0 ∧ σ.1 (c + 5) (σ.1 (c + 7) j).toNat = 0)) → (41 - i) < N → zX l w mX2_firstUnread (zMQ w 2 0 Q) 2 [zf 2 c, zi ((i : Nat) : Int)] [] 0 σ := by
    intro N
    induction N with
    | zero => intro i _ _ _; exact absurd (by assumption) (Nat.not_lt_zero _)
    | succ N ih2 =>
      intro i hi hj hN
      refine zx_iloadN dX2_firstUnread_2 rfl rfl ?_
      refine zx_aloadN dX2_firstUnread_3 rfl rfl ?_
      refine zy_getI fl_RX2_9 rfl dX2_firstUnread_4 rfl ?_
      refine zx_icmp_ge (tgt := 36) (by first | exact hz _ _ | assumption | exact zr_b _ | exact zcmp_r _ _ | (unfold zr at *; omega)) (by first | exact hz _ _ | assumption | exact zr_b _ | exact zcmp_r _ _ | (unfold zr at *; omega)) dX2_firstUnread_7 (by decide) (fun h7 => ?_) (fun h7 => ?_)
      · refine zx_iconst dX2_firstUnread_36 ?_
        refine zx_iret rfl rfl dX2_firstUnread_37 ?_
        rw [hQ]
        refine ⟨congrArg (fun z : Int => (Sum.inl (some (zi z)) : Option zV ⊕ String)) ?_, by first | rfl | (exfalso; omega)⟩
        first | rw [zfst_no (fun j hj2 => hj j (by omega)), if_pos rfl] | (rw [zfst_at (i := i) (by omega) hj (by first | assumption | omega), if_neg (by omega)]; rfl)
      · refine zx_aloadN dX2_firstUnread_10 rfl rfl ?_
        refine zx_aloadN dX2_firstUnread_11 rfl rfl ?_
        refine zy_getR (q' := c + 7) fl_RX2_35 rfl dX2_firstUnread_12 rfl ?_
        refine zx_iloadN dX2_firstUnread_15 rfl rfl ?_
        refine zy_iald (v := σ.1 (c + 7) i) rfl (by decide) (by decide) dX2_firstUnread_16 (by omega) (by omega) rfl ?_
        refine zy_cv [zi (σ.1 (c + 7) i)] (sX2_isUnread  hfl hz (by first | exact hz _ _ | assumption | exact zr_b _ | exact zcmp_r _ _ | (unfold zr at *; omega)) (by first | assumption | omega)) dX2_firstUnread_17 (by decide) rfl cw_RX2_59 okX2_isUnread rfl (Nat.le_of_ble_eq_true rfl) ⟨Nat.le_of_ble_eq_true rfl, Nat.le_of_ble_eq_true rfl, Nat.le_of_ble_eq_true rfl, Nat.le_of_ble_eq_true rfl⟩ ?_
        refine zx_if_eq (tgt := 30) (by first | exact hz _ _ | assumption | exact zr_b _ | exact zcmp_r _ _ | (unfold zr at *; omega)) dX2_firstUnread_20 (by decide) (fun h20 => ?_) (fun h20 => ?_)
        · have h20 := zb_0.mp h20
          refine zy_iinc (b := ((i + 1 : Nat) : Int)) [zf 2 c, zi ((i + 1 : Nat) : Int)] dX2_firstUnread_30 rfl (by omega) (Nat.le_of_ble_eq_true rfl) rfl rfl ?_
          refine zx_goto (tgt := 2) dX2_firstUnread_33 (by decide) ?_
          exact ih2 (i + 1) (by first | assumption | omega) (lt_s hj (by first | assumption | omega)) (by omega)
        · have h20 := zb_n.mp h20
          refine zx_aloadN dX2_firstUnread_23 rfl rfl ?_
          refine zy_getR (q' := c + 7) fl_RX2_35 rfl dX2_firstUnread_24 rfl ?_
          refine zx_iloadN dX2_firstUnread_27 rfl rfl ?_
          refine zy_iald (v := σ.1 (c + 7) i) rfl (by decide) (by decide) dX2_firstUnread_28 (by omega) (by omega) rfl ?_
          refine zx_iret rfl rfl dX2_firstUnread_29 ?_
          rw [hQ]
          refine ⟨congrArg (fun z : Int => (Sum.inl (some (zi z)) : Option zV ⊕ String)) ?_, by first | rfl | (exfalso; omega)⟩
          first | rw [zfst_no (fun j hj2 => hj j (by omega)), if_pos rfl] | (rw [zfst_at (i := i) (by omega) hj (by first | assumption | omega), if_neg (by omega)]; rfl)
  exact L2 _ 0 (by first | assumption | omega) lt_0 (Nat.lt_succ_self _)
set_option maxRecDepth 20000 in
set_option maxHeartbeats 2000000 in
theorem sX2_unreadCount {l : Launch} {w : zW} (hfl : l.stackTraces = false) {σ : zS} {c : Nat} (hz : zOK σ) (hK : 0 ≤ σ.1 c 0 ∧ σ.1 c 0 ≤ 40) : Sp l w mX2_unreadCount 2 0 [zf 2 c] σ (zret (zi (zs (fun i => zb (0 ≤ (i : Int) ∧ (i : Int) < σ.1 c 0 ∧ σ.1 (c + 5) i = 0)) (σ.1 c 0).toNat)) σ) := by
  obtain ⟨Q, hQ⟩ : ∃ Q : zQ, Q = (zret (zi (zs (fun i => zb (0 ≤ (i : Int) ∧ (i : Int) < σ.1 c 0 ∧ σ.1 (c + 5) i = 0)) (σ.1 c 0).toNat)) σ) := ⟨_, rfl⟩
  rw [← hQ]
  refine zx_enter hfl (by decide) rfl 2 rfl ?_
  show zX l w mX2_unreadCount (zMQ w 2 0 Q) 0 [zf 2 c, zu, zu] [] 0 σ
  refine zx_iconst dX2_unreadCount_0 ?_
  refine zy_istoreN [zf 2 c, zi 0, zu] dX2_unreadCount_1 rfl (Nat.le_of_ble_eq_true rfl) (Nat.le_of_ble_eq_true rfl) rfl rfl ?_
  refine zx_iconst dX2_unreadCount_2 ?_
  refine zy_istoreN [zf 2 c, zi 0, zi 0] dX2_unreadCount_3 rfl (Nat.le_of_ble_eq_true rfl) (Nat.le_of_ble_eq_true rfl) rfl rfl ?_
  have L4 : ∀ (N : Nat) (i : Nat) (acc : Int), ((i : Int) ≤ σ.1 c 0) → (acc = zs (fun i => zb (0 ≤ (i : Int) ∧ (i : Int) < σ.1 c 0 ∧ σ.1 (c + 5) i = 0)) i) → (41 - i) < N → zX l w mX2_unreadCount (zMQ w 2 0 Q) 4 [zf 2 c, zi acc, zi ((i : Nat) : Int)] [] 0 σ := by
    intro N
    induction N with
    | zero => intro i acc _ _ _; exact absurd (by assumption) (Nat.not_lt_zero _)
    | succ N ih4 =>
      intro i acc hi hacc hN
      refine zx_iloadN dX2_unreadCount_4 rfl rfl ?_
      refine zx_aloadN dX2_unreadCount_5 rfl rfl ?_
      refine zy_getI fl_RX2_9 rfl dX2_unreadCount_6 rfl ?_
      refine zx_icmp_ge (tgt := 29) (by first | exact hz _ _ | assumption | exact zr_b _ | exact zcmp_r _ _ | (unfold zr at *; omega)) (by first | exact hz _ _ | assumption | exact zr_b _ | exact zcmp_r _ _ | (unfold zr at *; omega)) dX2_unreadCount_9 (by decide) (fun h9 => ?_) (fun h9 => ?_)
      · refine zx_iloadN dX2_unreadCount_29 rfl rfl ?_
        refine zx_iret rfl rfl dX2_unreadCount_30 ?_
        rw [hQ]
        refine ⟨congrArg (fun z : Int => (Sum.inl (some (zi z)) : Option zV ⊕ String)) ?_, by first | rfl | (exfalso; omega)⟩
        rw [hacc]; congr 1; omega
      · refine zx_aloadN dX2_unreadCount_12 rfl rfl ?_
        refine zx_iloadN dX2_unreadCount_13 rfl rfl ?_
        refine zy_cv [zi ((i : Nat) : Int)] (sX2_isUnread  hfl hz (by first | exact hz _ _ | assumption | exact zr_b _ | exact zcmp_r _ _ | (unfold zr at *; omega)) (by first | assumption | omega)) dX2_unreadCount_14 (by decide) rfl cw_RX2_59 okX2_isUnread rfl (Nat.le_of_ble_eq_true rfl) ⟨Nat.le_of_ble_eq_true rfl, Nat.le_of_ble_eq_true rfl, Nat.le_of_ble_eq_true rfl, Nat.le_of_ble_eq_true rfl⟩ ?_
        refine zy_top (b := zb (0 ≤ ((i : Nat) : Int) ∧ ((i : Nat) : Int) < σ.1 c 0 ∧ σ.1 (c + 5) i = 0)) rfl ?_
        refine zx_if_eq (tgt := 23) (by first | exact hz _ _ | assumption | exact zr_b _ | exact zcmp_r _ _ | (unfold zr at *; omega)) dX2_unreadCount_17 (by decide) (fun h17 => ?_) (fun h17 => ?_)
        · have h17 := zb_0.mp h17
          refine zy_iinc (b := ((i + 1 : Nat) : Int)) [zf 2 c, zi acc, zi ((i + 1 : Nat) : Int)] dX2_unreadCount_23 rfl (by omega) (Nat.le_of_ble_eq_true rfl) rfl rfl ?_
          refine zx_goto (tgt := 4) dX2_unreadCount_26 (by decide) ?_
          exact ih4 (i + 1) acc (by first | assumption | omega) (by subst hacc; first | exact zsb_t (by first | assumption | omega) | exact zsb_f (by first | assumption | omega)) (by omega)
        · have h17 := zb_n.mp h17
          refine zy_iinc (b := acc + 1) [zf 2 c, zi (acc + 1), zi ((i : Nat) : Int)] dX2_unreadCount_20 rfl (by omega) (Nat.le_of_ble_eq_true rfl) rfl rfl ?_
          refine zy_iinc (b := ((i + 1 : Nat) : Int)) [zf 2 c, zi (acc + 1), zi ((i + 1 : Nat) : Int)] dX2_unreadCount_23 rfl (by omega) (Nat.le_of_ble_eq_true rfl) rfl rfl ?_
          refine zx_goto (tgt := 4) dX2_unreadCount_26 (by decide) ?_
          exact ih4 (i + 1) (acc + 1) (by first | assumption | omega) (by subst hacc; first | exact zsb_t (by first | assumption | omega) | exact zsb_f (by first | assumption | omega)) (by omega)
  exact L4 _ 0 0 (by first | assumption | omega) rfl (Nat.lt_succ_self _)
set_option maxRecDepth 20000 in
set_option maxHeartbeats 2000000 in
theorem sX0_hasPrinter {l : Launch} {w : zW} (hfl : l.stackTraces = false) {σ : zS} {a : Nat}{x : Int} (hz : zOK σ) (hx : zr x) : Sp l w mX0_hasPrinter 0 0 [zf 0 a, zi x] σ (zret (zi (zb (0 ≤ x ∧ x < σ.1 a 0))) σ) := by
  obtain ⟨Q, hQ⟩ : ∃ Q : zQ, Q = (zret (zi (zb (0 ≤ x ∧ x < σ.1 a 0))) σ) := ⟨_, rfl⟩
  rw [← hQ]
  refine zx_enter hfl (by decide) rfl 0 rfl ?_
  show zX l w mX0_hasPrinter (zMQ w 0 0 Q) 0 [zf 0 a, zi x] [] 0 σ
  refine zx_iloadN dX0_hasPrinter_0 rfl rfl ?_
  refine zx_if_lt (tgt := 16) (by first | exact hz _ _ | assumption | exact zr_b _ | exact zcmp_r _ _ | (unfold zr at *; omega)) dX0_hasPrinter_1 (by decide) (fun h1 => ?_) (fun h1 => ?_)
  · refine zx_iconst dX0_hasPrinter_16 ?_
    refine zx_iret rfl rfl dX0_hasPrinter_17 ?_
    rw [hQ]
    refine ⟨congrArg (fun z : Int => (Sum.inl (some (zi z)) : Option zV ⊕ String)) ?_, by first | rfl | (exfalso; omega)⟩
    first | rfl | exact (zb_t (by first | assumption | omega)).symm | exact (zb_f (by first | assumption | omega)).symm | exact zb_c (by constructor <;> intro q <;> omega)
  · refine zx_iloadN dX0_hasPrinter_4 rfl rfl ?_
    refine zx_aloadN dX0_hasPrinter_5 rfl rfl ?_
    refine zy_getI fl_RX0_9 rfl dX0_hasPrinter_6 rfl ?_
    refine zx_icmp_ge (tgt := 16) (by first | exact hz _ _ | assumption | exact zr_b _ | exact zcmp_r _ _ | (unfold zr at *; omega)) (by first | exact hz _ _ | assumption | exact zr_b _ | exact zcmp_r _ _ | (unfold zr at *; omega)) dX0_hasPrinter_9 (by decide) (fun h9 => ?_) (fun h9 => ?_)
    · refine zx_iconst dX0_hasPrinter_16 ?_
      refine zx_iret rfl rfl dX0_hasPrinter_17 ?_
      rw [hQ]
      refine ⟨congrArg (fun z : Int => (Sum.inl (some (zi z)) : Option zV ⊕ String)) ?_, by first | rfl | (exfalso; omega)⟩
      first | rfl | exact (zb_t (by first | assumption | omega)).symm | exact (zb_f (by first | assumption | omega)).symm | exact zb_c (by constructor <;> intro q <;> omega)
    · refine zx_iconst dX0_hasPrinter_12 ?_
      refine zx_goto (tgt := 17) dX0_hasPrinter_13 (by decide) ?_
      refine zx_iret rfl rfl dX0_hasPrinter_17 ?_
      rw [hQ]
      refine ⟨congrArg (fun z : Int => (Sum.inl (some (zi z)) : Option zV ⊕ String)) ?_, by first | rfl | (exfalso; omega)⟩
      first | rfl | exact (zb_t (by first | assumption | omega)).symm | exact (zb_f (by first | assumption | omega)).symm | exact zb_c (by constructor <;> intro q <;> omega)
set_option maxRecDepth 20000 in
set_option maxHeartbeats 2000000 in
theorem sX0_hasWatermark {l : Launch} {w : zW} (hfl : l.stackTraces = false) {σ : zS} {a : Nat}{x : Int} (hz : zOK σ) (hx : zr x) : Sp l w mX0_hasWatermark 0 0 [zf 0 a, zi x] σ (zret (zi (zb (0 ≤ x ∧ x < σ.1 a 7))) σ) := by
  obtain ⟨Q, hQ⟩ : ∃ Q : zQ, Q = (zret (zi (zb (0 ≤ x ∧ x < σ.1 a 7))) σ) := ⟨_, rfl⟩
  rw [← hQ]
  refine zx_enter hfl (by decide) rfl 0 rfl ?_
  show zX l w mX0_hasWatermark (zMQ w 0 0 Q) 0 [zf 0 a, zi x] [] 0 σ
  refine zx_iloadN dX0_hasWatermark_0 rfl rfl ?_
  refine zx_if_lt (tgt := 16) (by first | exact hz _ _ | assumption | exact zr_b _ | exact zcmp_r _ _ | (unfold zr at *; omega)) dX0_hasWatermark_1 (by decide) (fun h1 => ?_) (fun h1 => ?_)
  · refine zx_iconst dX0_hasWatermark_16 ?_
    refine zx_iret rfl rfl dX0_hasWatermark_17 ?_
    rw [hQ]
    refine ⟨congrArg (fun z : Int => (Sum.inl (some (zi z)) : Option zV ⊕ String)) ?_, by first | rfl | (exfalso; omega)⟩
    first | rfl | exact (zb_t (by first | assumption | omega)).symm | exact (zb_f (by first | assumption | omega)).symm | exact zb_c (by constructor <;> intro q <;> omega)
  · refine zx_iloadN dX0_hasWatermark_4 rfl rfl ?_
    refine zx_aloadN dX0_hasWatermark_5 rfl rfl ?_
    refine zy_getI fl_RX0_34 rfl dX0_hasWatermark_6 rfl ?_
    refine zx_icmp_ge (tgt := 16) (by first | exact hz _ _ | assumption | exact zr_b _ | exact zcmp_r _ _ | (unfold zr at *; omega)) (by first | exact hz _ _ | assumption | exact zr_b _ | exact zcmp_r _ _ | (unfold zr at *; omega)) dX0_hasWatermark_9 (by decide) (fun h9 => ?_) (fun h9 => ?_)
    · refine zx_iconst dX0_hasWatermark_16 ?_
      refine zx_iret rfl rfl dX0_hasWatermark_17 ?_
      rw [hQ]
      refine ⟨congrArg (fun z : Int => (Sum.inl (some (zi z)) : Option zV ⊕ String)) ?_, by first | rfl | (exfalso; omega)⟩
      first | rfl | exact (zb_t (by first | assumption | omega)).symm | exact (zb_f (by first | assumption | omega)).symm | exact zb_c (by constructor <;> intro q <;> omega)
    · refine zx_iconst dX0_hasWatermark_12 ?_
      refine zx_goto (tgt := 17) dX0_hasWatermark_13 (by decide) ?_
      refine zx_iret rfl rfl dX0_hasWatermark_17 ?_
      rw [hQ]
      refine ⟨congrArg (fun z : Int => (Sum.inl (some (zi z)) : Option zV ⊕ String)) ?_, by first | rfl | (exfalso; omega)⟩
      first | rfl | exact (zb_t (by first | assumption | omega)).symm | exact (zb_f (by first | assumption | omega)).symm | exact zb_c (by constructor <;> intro q <;> omega)
set_option maxRecDepth 20000 in
set_option maxHeartbeats 2000000 in
theorem sX0_printerNamed {l : Launch} {w : zW} (hfl : l.stackTraces = false) {σ : zS} {a : Nat}{x : Int} (hz : zOK σ) (hx : zr x) (hP : 0 ≤ σ.1 a 0 ∧ σ.1 a 0 ≤ 8) : Sp l w mX0_printerNamed 0 0 [zf 0 a, zi x] σ (zret (zi (zfst (fun i => σ.1 (a + 1) i = x) (σ.1 a 0).toNat)) σ) := by
  obtain ⟨Q, hQ⟩ : ∃ Q : zQ, Q = (zret (zi (zfst (fun i => σ.1 (a + 1) i = x) (σ.1 a 0).toNat)) σ) := ⟨_, rfl⟩
  rw [← hQ]
  refine zx_enter hfl (by decide) rfl 1 rfl ?_
  show zX l w mX0_printerNamed (zMQ w 0 0 Q) 0 [zf 0 a, zi x, zu] [] 0 σ
  refine zx_iconst dX0_printerNamed_0 ?_
  refine zy_istoreN [zf 0 a, zi x, zi 0] dX0_printerNamed_1 rfl (Nat.le_of_ble_eq_true rfl) (Nat.le_of_ble_eq_true rfl) rfl rfl ?_
  have L2 : ∀ (N : Nat) (i : Nat), ((i : Int) ≤ σ.1 a 0) → (∀ j, j < i → ¬ σ.1 (a + 1) j = x) → (9 - i) < N → zX l w mX0_printerNamed (zMQ w 0 0 Q) 2 [zf 0 a, zi x, zi ((i : Nat) : Int)] [] 0 σ := by
    intro N
    induction N with
    | zero => intro i _ _ _; exact absurd (by assumption) (Nat.not_lt_zero _)
    | succ N ih2 =>
      intro i hi hj hN
      refine zx_iloadN dX0_printerNamed_2 rfl rfl ?_
      refine zx_aloadN dX0_printerNamed_3 rfl rfl ?_
      refine zy_getI fl_RX0_9 rfl dX0_printerNamed_4 rfl ?_
      refine zx_icmp_ge (tgt := 28) (by first | exact hz _ _ | assumption | exact zr_b _ | exact zcmp_r _ _ | (unfold zr at *; omega)) (by first | exact hz _ _ | assumption | exact zr_b _ | exact zcmp_r _ _ | (unfold zr at *; omega)) dX0_printerNamed_7 (by decide) (fun h7 => ?_) (fun h7 => ?_)
      · refine zx_iconst dX0_printerNamed_28 ?_
        refine zx_iret rfl rfl dX0_printerNamed_29 ?_
        rw [hQ]
        refine ⟨congrArg (fun z : Int => (Sum.inl (some (zi z)) : Option zV ⊕ String)) ?_, by first | rfl | (exfalso; omega)⟩
        first | exact (zfst_no (fun j hj2 => hj j (by omega))).symm | exact (zfst_at (by omega) hj (by assumption)).symm
      · refine zx_aloadN dX0_printerNamed_10 rfl rfl ?_
        refine zy_getR (q' := a + 1) fl_RX0_15 rfl dX0_printerNamed_11 rfl ?_
        refine zx_iloadN dX0_printerNamed_14 rfl rfl ?_
        refine zy_iald (v := σ.1 (a + 1) i) rfl (by decide) (by decide) dX0_printerNamed_15 (by omega) (by omega) rfl ?_
        refine zx_iloadN dX0_printerNamed_16 rfl rfl ?_
        refine zx_icmp_ne (tgt := 22) (by first | exact hz _ _ | assumption | exact zr_b _ | exact zcmp_r _ _ | (unfold zr at *; omega)) (by first | exact hz _ _ | assumption | exact zr_b _ | exact zcmp_r _ _ | (unfold zr at *; omega)) dX0_printerNamed_17 (by decide) (fun h17 => ?_) (fun h17 => ?_)
        · refine zy_iinc (b := ((i + 1 : Nat) : Int)) [zf 0 a, zi x, zi ((i + 1 : Nat) : Int)] dX0_printerNamed_22 rfl (by omega) (Nat.le_of_ble_eq_true rfl) rfl rfl ?_
          refine zx_goto (tgt := 2) dX0_printerNamed_25 (by decide) ?_
          exact ih2 (i + 1) (by first | assumption | omega) (lt_s hj (by assumption)) (by omega)
        · refine zx_iloadN dX0_printerNamed_20 rfl rfl ?_
          refine zx_iret rfl rfl dX0_printerNamed_21 ?_
          rw [hQ]
          refine ⟨congrArg (fun z : Int => (Sum.inl (some (zi z)) : Option zV ⊕ String)) ?_, by first | rfl | (exfalso; omega)⟩
          first | exact (zfst_no (fun j hj2 => hj j (by omega))).symm | exact (zfst_at (by omega) hj (by assumption)).symm
  exact L2 _ 0 (by first | assumption | omega) lt_0 (Nat.lt_succ_self _)
set_option maxRecDepth 20000 in
set_option maxHeartbeats 2000000 in
theorem sX0_worksIn {l : Launch} {w : zW} (hfl : l.stackTraces = false) {σ : zS} {a : Nat}{x y : Int} (hz : zOK σ) (hx : zr x) (hy : zr y) (hP : 0 ≤ σ.1 a 0 ∧ σ.1 a 0 ≤ 8) : Sp l w mX0_worksIn 1 0 [zf 0 a, zi x, zi y] σ (zret (zi (zb (0 ≤ x ∧ x < σ.1 a 0 ∧ σ.1 (a + 3) x.toNat ≤ y ∧ y ≤ σ.1 (a + 4) x.toNat))) σ) := by
  obtain ⟨Q, hQ⟩ : ∃ Q : zQ, Q = (zret (zi (zb (0 ≤ x ∧ x < σ.1 a 0 ∧ σ.1 (a + 3) x.toNat ≤ y ∧ y ≤ σ.1 (a + 4) x.toNat))) σ) := ⟨_, rfl⟩
  rw [← hQ]
  refine zx_enter hfl (by decide) rfl 0 rfl ?_
  show zX l w mX0_worksIn (zMQ w 1 0 Q) 0 [zf 0 a, zi x, zi y] [] 0 σ
  refine zx_aloadN dX0_worksIn_0 rfl rfl ?_
  refine zx_iloadN dX0_worksIn_1 rfl rfl ?_
  refine zy_cv [zi x] (sX0_hasPrinter  hfl hz (by first | exact hz _ _ | assumption | exact zr_b _ | exact zcmp_r _ _ | (unfold zr at *; omega))) dX0_worksIn_2 (by decide) rfl cw_RX0_58 okX0_hasPrinter rfl (Nat.le_of_ble_eq_true rfl) ⟨Nat.le_of_ble_eq_true rfl, Nat.le_of_ble_eq_true rfl, Nat.le_of_ble_eq_true rfl, Nat.le_of_ble_eq_true rfl⟩ ?_
  refine zx_if_eq (tgt := 31) (by first | exact hz _ _ | assumption | exact zr_b _ | exact zcmp_r _ _ | (unfold zr at *; omega)) dX0_worksIn_5 (by decide) (fun h5 => ?_) (fun h5 => ?_)
  · have h5 := zb_0.mp h5
    refine zx_iconst dX0_worksIn_31 ?_
    refine zx_iret rfl rfl dX0_worksIn_32 ?_
    rw [hQ]
    refine ⟨congrArg (fun z : Int => (Sum.inl (some (zi z)) : Option zV ⊕ String)) ?_, by first | rfl | (exfalso; omega)⟩
    first | rfl | exact (zb_t (by first | assumption | omega)).symm | exact (zb_f (by first | assumption | omega)).symm | exact zb_c (by constructor <;> intro q <;> omega)
  · have h5 := zb_n.mp h5
    refine zx_iloadN dX0_worksIn_8 rfl rfl ?_
    refine zx_aloadN dX0_worksIn_9 rfl rfl ?_
    refine zy_getR (q' := a + 3) fl_RX0_22 rfl dX0_worksIn_10 rfl ?_
    refine zx_iloadN dX0_worksIn_13 rfl rfl ?_
    refine zy_iald (v := σ.1 (a + 3) x.toNat) rfl (by decide) (by decide) dX0_worksIn_14 (by omega) (by omega) rfl ?_
    refine zx_aloadN dX0_worksIn_15 rfl rfl ?_
    refine zy_getR (q' := a + 4) fl_RX0_25 rfl dX0_worksIn_16 rfl ?_
    refine zx_iloadN dX0_worksIn_19 rfl rfl ?_
    refine zy_iald (v := σ.1 (a + 4) x.toNat) rfl (by decide) (by decide) dX0_worksIn_20 (by omega) (by omega) rfl ?_
    refine zy_cn [zi y, zi (σ.1 (a + 3) x.toNat), zi (σ.1 (a + 4) x.toNat)] (sX9_isWithin  hfl hz (by first | exact hz _ _ | assumption | exact zr_b _ | exact zcmp_r _ _ | (unfold zr at *; omega)) (by first | exact hz _ _ | assumption | exact zr_b _ | exact zcmp_r _ _ | (unfold zr at *; omega)) (by first | exact hz _ _ | assumption | exact zr_b _ | exact zcmp_r _ _ | (unfold zr at *; omega))) dX0_worksIn_21 cw_RX0_62 okX9_isWithin rfl (Nat.le_of_ble_eq_true rfl) ⟨Nat.le_of_ble_eq_true rfl, Nat.le_of_ble_eq_true rfl, Nat.le_of_ble_eq_true rfl, Nat.le_of_ble_eq_true rfl⟩ ?_
    refine zx_if_eq (tgt := 31) (by first | exact hz _ _ | assumption | exact zr_b _ | exact zcmp_r _ _ | (unfold zr at *; omega)) dX0_worksIn_24 (by decide) (fun h24 => ?_) (fun h24 => ?_)
    · have h24 := zb_0.mp h24
      refine zx_iconst dX0_worksIn_31 ?_
      refine zx_iret rfl rfl dX0_worksIn_32 ?_
      rw [hQ]
      refine ⟨congrArg (fun z : Int => (Sum.inl (some (zi z)) : Option zV ⊕ String)) ?_, by first | rfl | (exfalso; omega)⟩
      first | rfl | exact (zb_t (by first | assumption | omega)).symm | exact (zb_f (by first | assumption | omega)).symm | exact zb_c (by constructor <;> intro q <;> omega)
    · have h24 := zb_n.mp h24
      refine zx_iconst dX0_worksIn_27 ?_
      refine zx_goto (tgt := 32) dX0_worksIn_28 (by decide) ?_
      refine zx_iret rfl rfl dX0_worksIn_32 ?_
      rw [hQ]
      refine ⟨congrArg (fun z : Int => (Sum.inl (some (zi z)) : Option zV ⊕ String)) ?_, by first | rfl | (exfalso; omega)⟩
      first | rfl | exact (zb_t (by first | assumption | omega)).symm | exact (zb_f (by first | assumption | omega)).symm | exact zb_c (by constructor <;> intro q <;> omega)
set_option maxRecDepth 20000 in
set_option maxHeartbeats 2000000 in
theorem sX0_ownsDevice {l : Launch} {w : zW} (hfl : l.stackTraces = false) {σ : zS} {a : Nat}{x y : Int} (hz : zOK σ) (hx : zr x) (hy : zr y) (hP : 0 ≤ σ.1 a 0 ∧ σ.1 a 0 ≤ 8) : Sp l w mX0_ownsDevice 1 0 [zf 0 a, zi x, zi y] σ (zret (zi (zb (0 ≤ x ∧ x < σ.1 a 0 ∧ 0 ≤ y ∧ y ≤ 31 ∧ ¬ zand (zushr (σ.1 (a + 5) x.toNat) y) 1 = 0))) σ) := by
  obtain ⟨Q, hQ⟩ : ∃ Q : zQ, Q = (zret (zi (zb (0 ≤ x ∧ x < σ.1 a 0 ∧ 0 ≤ y ∧ y ≤ 31 ∧ ¬ zand (zushr (σ.1 (a + 5) x.toNat) y) 1 = 0))) σ) := ⟨_, rfl⟩
  rw [← hQ]
  refine zx_enter hfl (by decide) rfl 0 rfl ?_
  show zX l w mX0_ownsDevice (zMQ w 1 0 Q) 0 [zf 0 a, zi x, zi y] [] 0 σ
  refine zx_aloadN dX0_ownsDevice_0 rfl rfl ?_
  refine zx_iloadN dX0_ownsDevice_1 rfl rfl ?_
  refine zy_cv [zi x] (sX0_hasPrinter  hfl hz (by first | exact hz _ _ | assumption | exact zr_b _ | exact zcmp_r _ _ | exact zr_t _ | (unfold zr at *; omega))) dX0_ownsDevice_2 (by decide) rfl cw_RX0_58 okX0_hasPrinter rfl (Nat.le_of_ble_eq_true rfl) ⟨Nat.le_of_ble_eq_true rfl, Nat.le_of_ble_eq_true rfl, Nat.le_of_ble_eq_true rfl, Nat.le_of_ble_eq_true rfl⟩ ?_
  refine zx_if_eq (tgt := 35) (by first | exact hz _ _ | assumption | exact zr_b _ | exact zcmp_r _ _ | exact zr_t _ | (unfold zr at *; omega)) dX0_ownsDevice_5 (by decide) (fun h5 => ?_) (fun h5 => ?_)
  · have h5 := zb_0.mp h5
    refine zx_iconst dX0_ownsDevice_35 ?_
    refine zx_iret rfl rfl dX0_ownsDevice_36 ?_
    rw [hQ]
    refine ⟨congrArg (fun z : Int => (Sum.inl (some (zi z)) : Option zV ⊕ String)) ?_, by first | rfl | (exfalso; omega)⟩
    first | rfl | exact (zb_t (by first | assumption | omega)).symm | exact (zb_f (by first | assumption | omega)).symm | exact zb_c (by constructor <;> intro q <;> omega)
  · have h5 := zb_n.mp h5
    refine zx_iloadN dX0_ownsDevice_8 rfl rfl ?_
    refine zx_iconst dX0_ownsDevice_9 ?_
    refine zx_bipush dX0_ownsDevice_10 rfl ?_
    refine zy_cn [zi y, zi 0, zi 31] (sX9_isWithin  hfl hz (by first | exact hz _ _ | assumption | exact zr_b _ | exact zcmp_r _ _ | exact zr_t _ | (unfold zr at *; omega)) (by first | exact hz _ _ | assumption | exact zr_b _ | exact zcmp_r _ _ | exact zr_t _ | (unfold zr at *; omega)) (by first | exact hz _ _ | assumption | exact zr_b _ | exact zcmp_r _ _ | exact zr_t _ | (unfold zr at *; omega))) dX0_ownsDevice_12 cw_RX0_62 okX9_isWithin rfl (Nat.le_of_ble_eq_true rfl) ⟨Nat.le_of_ble_eq_true rfl, Nat.le_of_ble_eq_true rfl, Nat.le_of_ble_eq_true rfl, Nat.le_of_ble_eq_true rfl⟩ ?_
    refine zx_if_eq (tgt := 35) (by first | exact hz _ _ | assumption | exact zr_b _ | exact zcmp_r _ _ | exact zr_t _ | (unfold zr at *; omega)) dX0_ownsDevice_15 (by decide) (fun h15 => ?_) (fun h15 => ?_)
    · have h15 := zb_0.mp h15
      refine zx_iconst dX0_ownsDevice_35 ?_
      refine zx_iret rfl rfl dX0_ownsDevice_36 ?_
      rw [hQ]
      refine ⟨congrArg (fun z : Int => (Sum.inl (some (zi z)) : Option zV ⊕ String)) ?_, by first | rfl | (exfalso; omega)⟩
      first | rfl | exact (zb_t (by first | assumption | omega)).symm | exact (zb_f (by first | assumption | omega)).symm | exact zb_c (by constructor <;> intro q <;> omega)
    · have h15 := zb_n.mp h15
      refine zx_aloadN dX0_ownsDevice_18 rfl rfl ?_
      refine zy_getR (q' := a + 5) fl_RX0_28 rfl dX0_ownsDevice_19 rfl ?_
      refine zx_iloadN dX0_ownsDevice_22 rfl rfl ?_
      refine zy_iald (v := σ.1 (a + 5) x.toNat) rfl (by decide) (by decide) dX0_ownsDevice_23 (by omega) (by omega) rfl ?_
      refine zx_iloadN dX0_ownsDevice_24 rfl rfl ?_
      refine zx_iushr dX0_ownsDevice_25 ?_
      refine zx_iconst dX0_ownsDevice_26 ?_
      refine zx_iand dX0_ownsDevice_27 ?_
      refine zx_if_eq (tgt := 35) (by first | exact hz _ _ | assumption | exact zr_b _ | exact zcmp_r _ _ | exact zr_t _ | (unfold zr at *; omega)) dX0_ownsDevice_28 (by decide) (fun h28 => ?_) (fun h28 => ?_)
      · refine zx_iconst dX0_ownsDevice_35 ?_
        refine zx_iret rfl rfl dX0_ownsDevice_36 ?_
        rw [hQ]
        refine ⟨congrArg (fun z : Int => (Sum.inl (some (zi z)) : Option zV ⊕ String)) ?_, by first | rfl | (exfalso; omega)⟩
        first | rfl | exact (zb_t (by first | assumption | omega)).symm | exact (zb_f (by first | assumption | omega)).symm | exact zb_c (by constructor <;> intro q <;> omega)
      · refine zx_iconst dX0_ownsDevice_31 ?_
        refine zx_goto (tgt := 36) dX0_ownsDevice_32 (by decide) ?_
        refine zx_iret rfl rfl dX0_ownsDevice_36 ?_
        rw [hQ]
        refine ⟨congrArg (fun z : Int => (Sum.inl (some (zi z)) : Option zV ⊕ String)) ?_, by first | rfl | (exfalso; omega)⟩
        first | rfl | exact (zb_t (by first | assumption | omega)).symm | exact (zb_f (by first | assumption | omega)).symm | exact zb_c (by constructor <;> intro q <;> omega)
set_option maxRecDepth 20000 in
set_option maxHeartbeats 2000000 in
theorem sX0_ownsTypeface {l : Launch} {w : zW} (hfl : l.stackTraces = false) {σ : zS} {a : Nat}{x y : Int} (hz : zOK σ) (hx : zr x) (hy : zr y) (hP : 0 ≤ σ.1 a 0 ∧ σ.1 a 0 ≤ 8) : Sp l w mX0_ownsTypeface 1 0 [zf 0 a, zi x, zi y] σ (zret (zi (zb (0 ≤ x ∧ x < σ.1 a 0 ∧ 0 ≤ y ∧ y ≤ 15 ∧ ¬ zand (zushr (σ.1 (a + 6) x.toNat) y) 1 = 0))) σ) := by
  obtain ⟨Q, hQ⟩ : ∃ Q : zQ, Q = (zret (zi (zb (0 ≤ x ∧ x < σ.1 a 0 ∧ 0 ≤ y ∧ y ≤ 15 ∧ ¬ zand (zushr (σ.1 (a + 6) x.toNat) y) 1 = 0))) σ) := ⟨_, rfl⟩
  rw [← hQ]
  refine zx_enter hfl (by decide) rfl 0 rfl ?_
  show zX l w mX0_ownsTypeface (zMQ w 1 0 Q) 0 [zf 0 a, zi x, zi y] [] 0 σ
  refine zx_aloadN dX0_ownsTypeface_0 rfl rfl ?_
  refine zx_iloadN dX0_ownsTypeface_1 rfl rfl ?_
  refine zy_cv [zi x] (sX0_hasPrinter  hfl hz (by first | exact hz _ _ | assumption | exact zr_b _ | exact zcmp_r _ _ | exact zr_t _ | (unfold zr at *; omega))) dX0_ownsTypeface_2 (by decide) rfl cw_RX0_58 okX0_hasPrinter rfl (Nat.le_of_ble_eq_true rfl) ⟨Nat.le_of_ble_eq_true rfl, Nat.le_of_ble_eq_true rfl, Nat.le_of_ble_eq_true rfl, Nat.le_of_ble_eq_true rfl⟩ ?_
  refine zx_if_eq (tgt := 35) (by first | exact hz _ _ | assumption | exact zr_b _ | exact zcmp_r _ _ | exact zr_t _ | (unfold zr at *; omega)) dX0_ownsTypeface_5 (by decide) (fun h5 => ?_) (fun h5 => ?_)
  · have h5 := zb_0.mp h5
    refine zx_iconst dX0_ownsTypeface_35 ?_
    refine zx_iret rfl rfl dX0_ownsTypeface_36 ?_
    rw [hQ]
    refine ⟨congrArg (fun z : Int => (Sum.inl (some (zi z)) : Option zV ⊕ String)) ?_, by first | rfl | (exfalso; omega)⟩
    first | rfl | exact (zb_t (by first | assumption | omega)).symm | exact (zb_f (by first | assumption | omega)).symm | exact zb_c (by constructor <;> intro q <;> omega)
  · have h5 := zb_n.mp h5
    refine zx_iloadN dX0_ownsTypeface_8 rfl rfl ?_
    refine zx_iconst dX0_ownsTypeface_9 ?_
    refine zx_bipush dX0_ownsTypeface_10 rfl ?_
    refine zy_cn [zi y, zi 0, zi 15] (sX9_isWithin  hfl hz (by first | exact hz _ _ | assumption | exact zr_b _ | exact zcmp_r _ _ | exact zr_t _ | (unfold zr at *; omega)) (by first | exact hz _ _ | assumption | exact zr_b _ | exact zcmp_r _ _ | exact zr_t _ | (unfold zr at *; omega)) (by first | exact hz _ _ | assumption | exact zr_b _ | exact zcmp_r _ _ | exact zr_t _ | (unfold zr at *; omega))) dX0_ownsTypeface_12 cw_RX0_62 okX9_isWithin rfl (Nat.le_of_ble_eq_true rfl) ⟨Nat.le_of_ble_eq_true rfl, Nat.le_of_ble_eq_true rfl, Nat.le_of_ble_eq_true rfl, Nat.le_of_ble_eq_true rfl⟩ ?_
    refine zx_if_eq (tgt := 35) (by first | exact hz _ _ | assumption | exact zr_b _ | exact zcmp_r _ _ | exact zr_t _ | (unfold zr at *; omega)) dX0_ownsTypeface_15 (by decide) (fun h15 => ?_) (fun h15 => ?_)
    · have h15 := zb_0.mp h15
      refine zx_iconst dX0_ownsTypeface_35 ?_
      refine zx_iret rfl rfl dX0_ownsTypeface_36 ?_
      rw [hQ]
      refine ⟨congrArg (fun z : Int => (Sum.inl (some (zi z)) : Option zV ⊕ String)) ?_, by first | rfl | (exfalso; omega)⟩
      first | rfl | exact (zb_t (by first | assumption | omega)).symm | exact (zb_f (by first | assumption | omega)).symm | exact zb_c (by constructor <;> intro q <;> omega)
    · have h15 := zb_n.mp h15
      refine zx_aloadN dX0_ownsTypeface_18 rfl rfl ?_
      refine zy_getR (q' := a + 6) fl_RX0_31 rfl dX0_ownsTypeface_19 rfl ?_
      refine zx_iloadN dX0_ownsTypeface_22 rfl rfl ?_
      refine zy_iald (v := σ.1 (a + 6) x.toNat) rfl (by decide) (by decide) dX0_ownsTypeface_23 (by omega) (by omega) rfl ?_
      refine zx_iloadN dX0_ownsTypeface_24 rfl rfl ?_
      refine zx_iushr dX0_ownsTypeface_25 ?_
      refine zx_iconst dX0_ownsTypeface_26 ?_
      refine zx_iand dX0_ownsTypeface_27 ?_
      refine zx_if_eq (tgt := 35) (by first | exact hz _ _ | assumption | exact zr_b _ | exact zcmp_r _ _ | exact zr_t _ | (unfold zr at *; omega)) dX0_ownsTypeface_28 (by decide) (fun h28 => ?_) (fun h28 => ?_)
      · refine zx_iconst dX0_ownsTypeface_35 ?_
        refine zx_iret rfl rfl dX0_ownsTypeface_36 ?_
        rw [hQ]
        refine ⟨congrArg (fun z : Int => (Sum.inl (some (zi z)) : Option zV ⊕ String)) ?_, by first | rfl | (exfalso; omega)⟩
        first | rfl | exact (zb_t (by first | assumption | omega)).symm | exact (zb_f (by first | assumption | omega)).symm | exact zb_c (by constructor <;> intro q <;> omega)
      · refine zx_iconst dX0_ownsTypeface_31 ?_
        refine zx_goto (tgt := 36) dX0_ownsTypeface_32 (by decide) ?_
        refine zx_iret rfl rfl dX0_ownsTypeface_36 ?_
        rw [hQ]
        refine ⟨congrArg (fun z : Int => (Sum.inl (some (zi z)) : Option zV ⊕ String)) ?_, by first | rfl | (exfalso; omega)⟩
        first | rfl | exact (zb_t (by first | assumption | omega)).symm | exact (zb_f (by first | assumption | omega)).symm | exact zb_c (by constructor <;> intro q <;> omega)
set_option maxRecDepth 20000 in
set_option maxHeartbeats 2000000 in
theorem sX0_ownersOf {l : Launch} {w : zW} (hfl : l.stackTraces = false) {σ : zS} {a : Nat}{y : Int} (hz : zOK σ) (hy : zr y) (hP : 0 ≤ σ.1 a 0 ∧ σ.1 a 0 ≤ 8) : Sp l w mX0_ownersOf 2 0 [zf 0 a, zi y] σ (zret (zi (zs (fun i => zb (0 ≤ (i : Int) ∧ (i : Int) < σ.1 a 0 ∧ 0 ≤ y ∧ y ≤ 31 ∧ ¬ zand (zushr (σ.1 (a + 5) i) y) 1 = 0)) (σ.1 a 0).toNat)) σ) := by
  obtain ⟨Q, hQ⟩ : ∃ Q : zQ, Q = (zret (zi (zs (fun i => zb (0 ≤ (i : Int) ∧ (i : Int) < σ.1 a 0 ∧ 0 ≤ y ∧ y ≤ 31 ∧ ¬ zand (zushr (σ.1 (a + 5) i) y) 1 = 0)) (σ.1 a 0).toNat)) σ) := ⟨_, rfl⟩
  rw [← hQ]
  refine zx_enter hfl (by decide) rfl 2 rfl ?_
  show zX l w mX0_ownersOf (zMQ w 2 0 Q) 0 [zf 0 a, zi y, zu, zu] [] 0 σ
  refine zx_iconst dX0_ownersOf_0 ?_
  refine zy_istoreN [zf 0 a, zi y, zi 0, zu] dX0_ownersOf_1 rfl (Nat.le_of_ble_eq_true rfl) (Nat.le_of_ble_eq_true rfl) rfl rfl ?_
  refine zx_iconst dX0_ownersOf_2 ?_
  refine zy_istoreN [zf 0 a, zi y, zi 0, zi 0] dX0_ownersOf_3 rfl (Nat.le_of_ble_eq_true rfl) (Nat.le_of_ble_eq_true rfl) rfl rfl ?_
  have L4 : ∀ (N : Nat) (i : Nat) (acc : Int), ((i : Int) ≤ σ.1 a 0) → (acc = zs (fun i => zb (0 ≤ (i : Int) ∧ (i : Int) < σ.1 a 0 ∧ 0 ≤ y ∧ y ≤ 31 ∧ ¬ zand (zushr (σ.1 (a + 5) i) y) 1 = 0)) i) → (9 - i) < N → zX l w mX0_ownersOf (zMQ w 2 0 Q) 4 [zf 0 a, zi y, zi acc, zi ((i : Nat) : Int)] [] 0 σ := by
    intro N
    induction N with
    | zero => intro i acc _ _ _; exact absurd (by assumption) (Nat.not_lt_zero _)
    | succ N ih4 =>
      intro i acc hi hacc hN
      refine zx_iloadN dX0_ownersOf_4 rfl rfl ?_
      refine zx_aloadN dX0_ownersOf_5 rfl rfl ?_
      refine zy_getI fl_RX0_9 rfl dX0_ownersOf_6 rfl ?_
      refine zx_icmp_ge (tgt := 30) (by first | exact hz _ _ | assumption | exact zr_b _ | exact zcmp_r _ _ | (unfold zr at *; omega)) (by first | exact hz _ _ | assumption | exact zr_b _ | exact zcmp_r _ _ | (unfold zr at *; omega)) dX0_ownersOf_9 (by decide) (fun h9 => ?_) (fun h9 => ?_)
      · refine zx_iloadN dX0_ownersOf_30 rfl rfl ?_
        refine zx_iret rfl rfl dX0_ownersOf_31 ?_
        rw [hQ]
        refine ⟨congrArg (fun z : Int => (Sum.inl (some (zi z)) : Option zV ⊕ String)) ?_, by first | rfl | (exfalso; omega)⟩
        rw [hacc]; congr 1; omega
      · refine zx_aloadN dX0_ownersOf_12 rfl rfl ?_
        refine zx_iloadN dX0_ownersOf_13 rfl rfl ?_
        refine zx_iloadN dX0_ownersOf_14 rfl rfl ?_
        refine zy_cv [zi ((i : Nat) : Int), zi y] (sX0_ownsDevice  hfl hz (by first | exact hz _ _ | assumption | exact zr_b _ | exact zcmp_r _ _ | (unfold zr at *; omega)) (by first | exact hz _ _ | assumption | exact zr_b _ | exact zcmp_r _ _ | (unfold zr at *; omega)) (by first | assumption | omega)) dX0_ownersOf_15 (by decide) rfl cw_RX0_66 okX0_ownsDevice rfl (Nat.le_of_ble_eq_true rfl) ⟨Nat.le_of_ble_eq_true rfl, Nat.le_of_ble_eq_true rfl, Nat.le_of_ble_eq_true rfl, Nat.le_of_ble_eq_true rfl⟩ ?_
        refine zy_top (b := zb (0 ≤ ((i : Nat) : Int) ∧ ((i : Nat) : Int) < σ.1 a 0 ∧ 0 ≤ y ∧ y ≤ 31 ∧ ¬ zand (zushr (σ.1 (a + 5) i) y) 1 = 0)) rfl ?_
        refine zx_if_eq (tgt := 24) (by first | exact hz _ _ | assumption | exact zr_b _ | exact zcmp_r _ _ | (unfold zr at *; omega)) dX0_ownersOf_18 (by decide) (fun h18 => ?_) (fun h18 => ?_)
        · have h18 := zb_0.mp h18
          refine zy_iinc (b := ((i + 1 : Nat) : Int)) [zf 0 a, zi y, zi acc, zi ((i + 1 : Nat) : Int)] dX0_ownersOf_24 rfl (by omega) (Nat.le_of_ble_eq_true rfl) rfl rfl ?_
          refine zx_goto (tgt := 4) dX0_ownersOf_27 (by decide) ?_
          exact ih4 (i + 1) acc (by first | assumption | omega) (by subst hacc; first | exact zsb_t (by first | assumption | omega) | exact zsb_f (by first | assumption | omega)) (by omega)
        · have h18 := zb_n.mp h18
          refine zy_iinc (b := acc + 1) [zf 0 a, zi y, zi (acc + 1), zi ((i : Nat) : Int)] dX0_ownersOf_21 rfl (by omega) (Nat.le_of_ble_eq_true rfl) rfl rfl ?_
          refine zy_iinc (b := ((i + 1 : Nat) : Int)) [zf 0 a, zi y, zi (acc + 1), zi ((i + 1 : Nat) : Int)] dX0_ownersOf_24 rfl (by omega) (Nat.le_of_ble_eq_true rfl) rfl rfl ?_
          refine zx_goto (tgt := 4) dX0_ownersOf_27 (by decide) ?_
          exact ih4 (i + 1) (acc + 1) (by first | assumption | omega) (by subst hacc; first | exact zsb_t (by first | assumption | omega) | exact zsb_f (by first | assumption | omega)) (by omega)
  exact L4 _ 0 0 (by first | assumption | omega) rfl (Nat.lt_succ_self _)
set_option maxRecDepth 20000 in
set_option maxHeartbeats 2000000 in
theorem sX0_watermarkFrom {l : Launch} {w : zW} (hfl : l.stackTraces = false) {σ : zS} {a : Nat}{x : Int} (hz : zOK σ) (hx : zr x) (hM : 0 ≤ σ.1 a 7 ∧ σ.1 a 7 ≤ 8) : Sp l w mX0_watermarkFrom 1 0 [zf 0 a, zi x] σ (zret (zi (if 0 ≤ x ∧ x < σ.1 a 7 then σ.1 (a + 7) x.toNat else 1450)) σ) := by
  obtain ⟨Q, hQ⟩ : ∃ Q : zQ, Q = (zret (zi (if 0 ≤ x ∧ x < σ.1 a 7 then σ.1 (a + 7) x.toNat else 1450)) σ) := ⟨_, rfl⟩
  rw [← hQ]
  refine zx_enter hfl (by decide) rfl 0 rfl ?_
  show zX l w mX0_watermarkFrom (zMQ w 1 0 Q) 0 [zf 0 a, zi x] [] 0 σ
  refine zx_aloadN dX0_watermarkFrom_0 rfl rfl ?_
  refine zx_iloadN dX0_watermarkFrom_1 rfl rfl ?_
  refine zy_cv [zi x] (sX0_hasWatermark  hfl hz (by first | exact hz _ _ | assumption | exact zr_b _ | exact zcmp_r _ _ | (unfold zr at *; omega))) dX0_watermarkFrom_2 (by decide) rfl cw_RX0_70 okX0_hasWatermark rfl (Nat.le_of_ble_eq_true rfl) ⟨Nat.le_of_ble_eq_true rfl, Nat.le_of_ble_eq_true rfl, Nat.le_of_ble_eq_true rfl, Nat.le_of_ble_eq_true rfl⟩ ?_
  refine zx_if_eq (tgt := 17) (by first | exact hz _ _ | assumption | exact zr_b _ | exact zcmp_r _ _ | (unfold zr at *; omega)) dX0_watermarkFrom_5 (by decide) (fun h5 => ?_) (fun h5 => ?_)
  · have h5 := zb_0.mp h5
    refine zx_sipush dX0_watermarkFrom_17 rfl ?_
    refine zx_iret rfl rfl dX0_watermarkFrom_20 ?_
    rw [hQ]
    refine ⟨congrArg (fun z : Int => (Sum.inl (some (zi z)) : Option zV ⊕ String)) ?_, by first | rfl | (exfalso; omega)⟩
    first | exact (if_pos (by assumption)).symm | exact (if_neg (by assumption)).symm
  · have h5 := zb_n.mp h5
    refine zx_aloadN dX0_watermarkFrom_8 rfl rfl ?_
    refine zy_getR (q' := a + 7) fl_RX0_37 rfl dX0_watermarkFrom_9 rfl ?_
    refine zx_iloadN dX0_watermarkFrom_12 rfl rfl ?_
    refine zy_iald (v := σ.1 (a + 7) x.toNat) rfl (by decide) (by decide) dX0_watermarkFrom_13 (by omega) (by omega) rfl ?_
    refine zx_goto (tgt := 20) dX0_watermarkFrom_14 (by decide) ?_
    refine zx_iret rfl rfl dX0_watermarkFrom_20 ?_
    rw [hQ]
    refine ⟨congrArg (fun z : Int => (Sum.inl (some (zi z)) : Option zV ⊕ String)) ?_, by first | rfl | (exfalso; omega)⟩
    first | exact (if_pos (by assumption)).symm | exact (if_neg (by assumption)).symm
set_option maxRecDepth 20000 in
set_option maxHeartbeats 2000000 in
theorem sX0_watermarkUntil {l : Launch} {w : zW} (hfl : l.stackTraces = false) {σ : zS} {a : Nat}{x : Int} (hz : zOK σ) (hx : zr x) (hM : 0 ≤ σ.1 a 7 ∧ σ.1 a 7 ≤ 8) : Sp l w mX0_watermarkUntil 1 0 [zf 0 a, zi x] σ (zret (zi (if 0 ≤ x ∧ x < σ.1 a 7 then σ.1 (a + 8) x.toNat + 3 else 1999)) σ) := by
  obtain ⟨Q, hQ⟩ : ∃ Q : zQ, Q = (zret (zi (if 0 ≤ x ∧ x < σ.1 a 7 then σ.1 (a + 8) x.toNat + 3 else 1999)) σ) := ⟨_, rfl⟩
  rw [← hQ]
  refine zx_enter hfl (by decide) rfl 0 rfl ?_
  show zX l w mX0_watermarkUntil (zMQ w 1 0 Q) 0 [zf 0 a, zi x] [] 0 σ
  refine zx_aloadN dX0_watermarkUntil_0 rfl rfl ?_
  refine zx_iloadN dX0_watermarkUntil_1 rfl rfl ?_
  refine zy_cv [zi x] (sX0_hasWatermark  hfl hz (by first | exact hz _ _ | assumption | exact zr_b _ | exact zcmp_r _ _ | (unfold zr at *; omega))) dX0_watermarkUntil_2 (by decide) rfl cw_RX0_70 okX0_hasWatermark rfl (Nat.le_of_ble_eq_true rfl) ⟨Nat.le_of_ble_eq_true rfl, Nat.le_of_ble_eq_true rfl, Nat.le_of_ble_eq_true rfl, Nat.le_of_ble_eq_true rfl⟩ ?_
  refine zx_if_eq (tgt := 19) (by first | exact hz _ _ | assumption | exact zr_b _ | exact zcmp_r _ _ | (unfold zr at *; omega)) dX0_watermarkUntil_5 (by decide) (fun h5 => ?_) (fun h5 => ?_)
  · have h5 := zb_0.mp h5
    refine zx_sipush dX0_watermarkUntil_19 rfl ?_
    refine zx_iret rfl rfl dX0_watermarkUntil_22 ?_
    rw [hQ]
    refine ⟨congrArg (fun z : Int => (Sum.inl (some (zi z)) : Option zV ⊕ String)) ?_, by first | rfl | (exfalso; omega)⟩
    first | exact (if_pos (by assumption)).symm | exact (if_neg (by assumption)).symm
  · have h5 := zb_n.mp h5
    refine zx_aloadN dX0_watermarkUntil_8 rfl rfl ?_
    refine zy_getR (q' := a + 8) fl_RX0_40 rfl dX0_watermarkUntil_9 rfl ?_
    refine zx_iloadN dX0_watermarkUntil_12 rfl rfl ?_
    refine zy_iald (v := σ.1 (a + 8) x.toNat) rfl (by decide) (by decide) dX0_watermarkUntil_13 (by omega) (by omega) rfl ?_
    refine zx_iconst dX0_watermarkUntil_14 ?_
    refine zx_iadd dX0_watermarkUntil_15 ?_
    refine zx_goto (tgt := 22) dX0_watermarkUntil_16 (by decide) ?_
    refine zx_iret rfl rfl dX0_watermarkUntil_22 ?_
    rw [hQ]
    refine ⟨congrArg (fun z : Int => (Sum.inl (some (zi z)) : Option zV ⊕ String)) ?_, by first | rfl | (exfalso; omega)⟩
    first | exact (if_pos (by assumption)).symm | exact (if_neg (by assumption)).symm
set_option maxRecDepth 20000 in
set_option maxHeartbeats 2000000 in
theorem sX0_lowestValue {l : Launch} {w : zW} (hfl : l.stackTraces = false) {σ : zS} {x : Int} (hz : zOK σ) (hx : zr x) : Sp l w mX0_lowestValue 0 0 [zi x] σ (zret (zi (if x = 4 then 1450 else 0)) σ) := by
  obtain ⟨Q, hQ⟩ : ∃ Q : zQ, Q = (zret (zi (if x = 4 then 1450 else 0)) σ) := ⟨_, rfl⟩
  rw [← hQ]
  refine zx_enter hfl (by decide) rfl 0 rfl ?_
  show zX l w mX0_lowestValue (zMQ w 0 0 Q) 0 [zi x] [] 0 σ
  refine zx_iloadN dX0_lowestValue_0 rfl rfl ?_
  refine zx_iconst dX0_lowestValue_1 ?_
  refine zx_icmp_ne (tgt := 11) (by first | exact hz _ _ | assumption | exact zr_b _ | exact zcmp_r _ _ | (unfold zr at *; omega)) (by first | exact hz _ _ | assumption | exact zr_b _ | exact zcmp_r _ _ | (unfold zr at *; omega)) dX0_lowestValue_2 (by decide) (fun h2 => ?_) (fun h2 => ?_)
  · refine zx_iconst dX0_lowestValue_11 ?_
    refine zx_iret rfl rfl dX0_lowestValue_12 ?_
    rw [hQ]
    refine ⟨congrArg (fun z : Int => (Sum.inl (some (zi z)) : Option zV ⊕ String)) ?_, by first | rfl | (exfalso; omega)⟩
    first | exact (if_pos (by omega)).symm | exact (if_neg (by omega)).symm
  · refine zx_sipush dX0_lowestValue_5 rfl ?_
    refine zx_goto (tgt := 12) dX0_lowestValue_8 (by decide) ?_
    refine zx_iret rfl rfl dX0_lowestValue_12 ?_
    rw [hQ]
    refine ⟨congrArg (fun z : Int => (Sum.inl (some (zi z)) : Option zV ⊕ String)) ?_, by first | rfl | (exfalso; omega)⟩
    first | exact (if_pos (by omega)).symm | exact (if_neg (by omega)).symm
set_option maxRecDepth 20000 in
set_option maxHeartbeats 2000000 in
theorem sX0_highestValue {l : Launch} {w : zW} (hfl : l.stackTraces = false) {σ : zS} {a : Nat}{x : Int} (hz : zOK σ) (hx : zr x) : Sp l w mX0_highestValue 0 0 [zf 0 a, zi x] σ (zret (zi (if x = 0 then 31 else if x = 1 then 15 else if x = 2 then σ.1 a 7 - 1 else if x = 3 then 9 else 1999)) σ) := by
  obtain ⟨Q, hQ⟩ : ∃ Q : zQ, Q = (zret (zi (if x = 0 then 31 else if x = 1 then 15 else if x = 2 then σ.1 a 7 - 1 else if x = 3 then 9 else 1999)) σ) := ⟨_, rfl⟩
  rw [← hQ]
  refine zx_enter hfl (by decide) rfl 0 rfl ?_
  show zX l w mX0_highestValue (zMQ w 0 0 Q) 0 [zf 0 a, zi x] [] 0 σ
  refine zx_iloadN dX0_highestValue_0 rfl rfl ?_
  rcases (by omega : x = 0 ∨ x = 1 ∨ x = 2 ∨ x = 3 ∨ (x < 0 ∨ 3 < x)) with h1 | h1 | h1 | h1 | h1
  · refine zx_tableIn (off := 31) (tgt := 32) (by first | exact hz _ _ | assumption | exact zr_b _ | exact zcmp_r _ _ | (unfold zr at *; omega)) dX0_highestValue_1 (by omega) (by omega) (by rw [h1]; rfl) (by decide) ?_
    refine zx_bipush dX0_highestValue_32 rfl ?_
    refine zx_iret rfl rfl dX0_highestValue_34 ?_
    rw [hQ]
    refine ⟨congrArg (fun z : Int => (Sum.inl (some (zi z)) : Option zV ⊕ String)) ?_, by first | rfl | (exfalso; omega)⟩
    first | rw [if_pos (by omega)] | rw [if_neg (by omega), if_pos (by omega)] | rw [if_neg (by omega), if_neg (by omega), if_pos (by omega)] | rw [if_neg (by omega), if_neg (by omega), if_neg (by omega), if_pos (by omega)] | rw [if_neg (by omega), if_neg (by omega), if_neg (by omega), if_neg (by omega)]
  · refine zx_tableIn (off := 34) (tgt := 35) (by first | exact hz _ _ | assumption | exact zr_b _ | exact zcmp_r _ _ | (unfold zr at *; omega)) dX0_highestValue_1 (by omega) (by omega) (by rw [h1]; rfl) (by decide) ?_
    refine zx_bipush dX0_highestValue_35 rfl ?_
    refine zx_iret rfl rfl dX0_highestValue_37 ?_
    rw [hQ]
    refine ⟨congrArg (fun z : Int => (Sum.inl (some (zi z)) : Option zV ⊕ String)) ?_, by first | rfl | (exfalso; omega)⟩
    first | rw [if_pos (by omega)] | rw [if_neg (by omega), if_pos (by omega)] | rw [if_neg (by omega), if_neg (by omega), if_pos (by omega)] | rw [if_neg (by omega), if_neg (by omega), if_neg (by omega), if_pos (by omega)] | rw [if_neg (by omega), if_neg (by omega), if_neg (by omega), if_neg (by omega)]
  · refine zx_tableIn (off := 37) (tgt := 38) (by first | exact hz _ _ | assumption | exact zr_b _ | exact zcmp_r _ _ | (unfold zr at *; omega)) dX0_highestValue_1 (by omega) (by omega) (by rw [h1]; rfl) (by decide) ?_
    refine zx_aloadN dX0_highestValue_38 rfl rfl ?_
    refine zy_getI fl_RX0_34 rfl dX0_highestValue_39 rfl ?_
    refine zx_iconst dX0_highestValue_42 ?_
    refine zx_isub dX0_highestValue_43 ?_
    refine zx_iret rfl rfl dX0_highestValue_44 ?_
    rw [hQ]
    refine ⟨congrArg (fun z : Int => (Sum.inl (some (zi z)) : Option zV ⊕ String)) ?_, by first | rfl | (exfalso; omega)⟩
    first | rw [if_pos (by omega)] | rw [if_neg (by omega), if_pos (by omega)] | rw [if_neg (by omega), if_neg (by omega), if_pos (by omega)] | rw [if_neg (by omega), if_neg (by omega), if_neg (by omega), if_pos (by omega)] | rw [if_neg (by omega), if_neg (by omega), if_neg (by omega), if_neg (by omega)]
  · refine zx_tableIn (off := 44) (tgt := 45) (by first | exact hz _ _ | assumption | exact zr_b _ | exact zcmp_r _ _ | (unfold zr at *; omega)) dX0_highestValue_1 (by omega) (by omega) (by rw [h1]; rfl) (by decide) ?_
    refine zx_bipush dX0_highestValue_45 rfl ?_
    refine zx_iret rfl rfl dX0_highestValue_47 ?_
    rw [hQ]
    refine ⟨congrArg (fun z : Int => (Sum.inl (some (zi z)) : Option zV ⊕ String)) ?_, by first | rfl | (exfalso; omega)⟩
    first | rw [if_pos (by omega)] | rw [if_neg (by omega), if_pos (by omega)] | rw [if_neg (by omega), if_neg (by omega), if_pos (by omega)] | rw [if_neg (by omega), if_neg (by omega), if_neg (by omega), if_pos (by omega)] | rw [if_neg (by omega), if_neg (by omega), if_neg (by omega), if_neg (by omega)]
  · refine zx_tableOut (tgt := 48) (by first | exact hz _ _ | assumption | exact zr_b _ | exact zcmp_r _ _ | (unfold zr at *; omega)) dX0_highestValue_1 (by omega) (by decide) ?_
    refine zx_sipush dX0_highestValue_48 rfl ?_
    refine zx_iret rfl rfl dX0_highestValue_51 ?_
    rw [hQ]
    refine ⟨congrArg (fun z : Int => (Sum.inl (some (zi z)) : Option zV ⊕ String)) ?_, by first | rfl | (exfalso; omega)⟩
    first | rw [if_pos (by omega)] | rw [if_neg (by omega), if_pos (by omega)] | rw [if_neg (by omega), if_neg (by omega), if_pos (by omega)] | rw [if_neg (by omega), if_neg (by omega), if_neg (by omega), if_pos (by omega)] | rw [if_neg (by omega), if_neg (by omega), if_neg (by omega), if_neg (by omega)]

