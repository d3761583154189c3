abbrev mX6_hasRoomFor : zM := (yX6_hasRoomFor, cX6_hasRoomFor, 2, (some .boolean), [])
theorem okX6_hasRoomFor : zMok mX6_hasRoomFor 1 := ⟨by decide, by decide, by decide +kernel⟩
theorem dX6_hasRoomFor_0 : decode cX6_hasRoomFor 0 = .ok (.iload_n 1, 1) := by decide +kernel
theorem dX6_hasRoomFor_1 : decode cX6_hasRoomFor 1 = .ok (.ifCond .lt 19, 3) := by decide +kernel
theorem dX6_hasRoomFor_20 : decode cX6_hasRoomFor 20 = .ok (.iconst 0, 1) := by decide +kernel
theorem dX6_hasRoomFor_21 : decode cX6_hasRoomFor 21 = .ok (.ireturn, 1) := by decide +kernel
theorem dX6_hasRoomFor_4 : decode cX6_hasRoomFor 4 = .ok (.iload_n 1, 1) := by decide +kernel
theorem dX6_hasRoomFor_5 : decode cX6_hasRoomFor 5 = .ok (.sipush 1400, 3) := by decide +kernel
theorem dX6_hasRoomFor_8 : decode cX6_hasRoomFor 8 = .ok (.aload_n 0, 1) := by decide +kernel
theorem dX6_hasRoomFor_9 : decode cX6_hasRoomFor 9 = .ok (.getfield 15, 3) := by decide +kernel
theorem fl_RX6_15 : zFl RX6 15 6 1 := ⟨RX6, TX6, 7, rfl, by decide, zmem1 62 (by decide +kernel) rfl, rfl⟩
theorem dX6_hasRoomFor_12 : decode cX6_hasRoomFor 12 = .ok (.isub, 1) := by decide +kernel
theorem dX6_hasRoomFor_13 : decode cX6_hasRoomFor 13 = .ok (.if_icmp .gt 7, 3) := by decide +kernel
theorem dX6_hasRoomFor_16 : decode cX6_hasRoomFor 16 = .ok (.iconst 1, 1) := by decide +kernel
theorem dX6_hasRoomFor_17 : decode cX6_hasRoomFor 17 = .ok (.goto 4, 3) := by decide +kernel
abbrev mX6_addByte : zM := (yX6_addByte, cX6_addByte, 2, none, [])
theorem okX6_addByte : zMok mX6_addByte 1 := ⟨by decide, by decide, by decide +kernel⟩
theorem dX6_addByte_0 : decode cX6_addByte 0 = .ok (.aload_n 0, 1) := by decide +kernel
theorem dX6_addByte_1 : decode cX6_addByte 1 = .ok (.getfield 15, 3) := by decide +kernel
theorem dX6_addByte_4 : decode cX6_addByte 4 = .ok (.ifCond .lt 36, 3) := by decide +kernel
theorem dX6_addByte_40 : decode cX6_addByte 40 = .ok (.return_, 1) := by decide +kernel
theorem dX6_addByte_7 : decode cX6_addByte 7 = .ok (.aload_n 0, 1) := by decide +kernel
theorem dX6_addByte_8 : decode cX6_addByte 8 = .ok (.getfield 15, 3) := by decide +kernel
theorem dX6_addByte_11 : decode cX6_addByte 11 = .ok (.aload_n 0, 1) := by decide +kernel
theorem dX6_addByte_12 : decode cX6_addByte 12 = .ok (.getfield 9, 3) := by decide +kernel
theorem fl_RX6_9 : zFl RX6 9 6 0 := ⟨RX6, TX6, 7, rfl, by decide, zmem1 61 (by decide +kernel) rfl, rfl⟩
theorem dX6_addByte_15 : decode cX6_addByte 15 = .ok (.arraylength, 1) := by decide +kernel
theorem dX6_addByte_16 : decode cX6_addByte 16 = .ok (.if_icmp .ge 24, 3) := by decide +kernel
theorem dX6_addByte_19 : decode cX6_addByte 19 = .ok (.aload_n 0, 1) := by decide +kernel
theorem dX6_addByte_20 : decode cX6_addByte 20 = .ok (.getfield 9, 3) := by decide +kernel
theorem dX6_addByte_23 : decode cX6_addByte 23 = .ok (.aload_n 0, 1) := by decide +kernel
theorem dX6_addByte_24 : decode cX6_addByte 24 = .ok (.getfield 15, 3) := by decide +kernel
theorem dX6_addByte_27 : decode cX6_addByte 27 = .ok (.iload_n 1, 1) := by decide +kernel
theorem dX6_addByte_28 : decode cX6_addByte 28 = .ok (.i2b, 1) := by decide +kernel
theorem dX6_addByte_29 : decode cX6_addByte 29 = .ok (.bastore, 1) := by decide +kernel
theorem dX6_addByte_30 : decode cX6_addByte 30 = .ok (.aload_n 0, 1) := by decide +kernel
theorem dX6_addByte_31 : decode cX6_addByte 31 = .ok (.dup, 1) := by decide +kernel
theorem dX6_addByte_32 : decode cX6_addByte 32 = .ok (.getfield 15, 3) := by decide +kernel
theorem dX6_addByte_35 : decode cX6_addByte 35 = .ok (.iconst 1, 1) := by decide +kernel
theorem dX6_addByte_36 : decode cX6_addByte 36 = .ok (.iadd, 1) := by decide +kernel
theorem dX6_addByte_37 : decode cX6_addByte 37 = .ok (.putfield 15, 3) := by decide +kernel
theorem fp_6_1 : zFi 6 1 "I" := ⟨RX6, TX6, 7, rfl, rfl, rfl⟩
abbrev mX6_addFourBytes : zM := (yX6_addFourBytes, cX6_addFourBytes, 2, none, [])
theorem okX6_addFourBytes : zMok mX6_addFourBytes 1 := ⟨by decide, by decide, by decide +kernel⟩
theorem dX6_addFourBytes_0 : decode cX6_addFourBytes 0 = .ok (.aload_n 0, 1) := by decide +kernel
theorem dX6_addFourBytes_1 : decode cX6_addFourBytes 1 = .ok (.iload_n 1, 1) := by decide +kernel
theorem dX6_addFourBytes_2 : decode cX6_addFourBytes 2 = .ok (.bipush 24, 2) := by decide +kernel
theorem dX6_addFourBytes_4 : decode cX6_addFourBytes 4 = .ok (.iushr, 1) := by decide +kernel
theorem dX6_addFourBytes_5 : decode cX6_addFourBytes 5 = .ok (.invokevirtual 34, 3) := by decide +kernel
theorem cw_RX6_34 : zCwV RX6 34 mX6_addByte := zall [365, 367, 0, 32, 368] (by decide +kernel) (by decide +kernel)
theorem dX6_addFourBytes_8 : decode cX6_addFourBytes 8 = .ok (.aload_n 0, 1) := by decide +kernel
theorem dX6_addFourBytes_9 : decode cX6_addFourBytes 9 = .ok (.iload_n 1, 1) := by decide +kernel
theorem dX6_addFourBytes_10 : decode cX6_addFourBytes 10 = .ok (.bipush 16, 2) := by decide +kernel
theorem dX6_addFourBytes_12 : decode cX6_addFourBytes 12 = .ok (.iushr, 1) := by decide +kernel
theorem dX6_addFourBytes_13 : decode cX6_addFourBytes 13 = .ok (.invokevirtual 34, 3) := by decide +kernel
theorem dX6_addFourBytes_16 : decode cX6_addFourBytes 16 = .ok (.aload_n 0, 1) := by decide +kernel
theorem dX6_addFourBytes_17 : decode cX6_addFourBytes 17 = .ok (.iload_n 1, 1) := by decide +kernel
theorem dX6_addFourBytes_18 : decode cX6_addFourBytes 18 = .ok (.bipush 8, 2) := by decide +kernel
theorem dX6_addFourBytes_20 : decode cX6_addFourBytes 20 = .ok (.iushr, 1) := by decide +kernel
theorem dX6_addFourBytes_21 : decode cX6_addFourBytes 21 = .ok (.invokevirtual 34, 3) := by decide +kernel
theorem dX6_addFourBytes_24 : decode cX6_addFourBytes 24 = .ok (.aload_n 0, 1) := by decide +kernel
theorem dX6_addFourBytes_25 : decode cX6_addFourBytes 25 = .ok (.iload_n 1, 1) := by decide +kernel
theorem dX6_addFourBytes_26 : decode cX6_addFourBytes 26 = .ok (.invokevirtual 34, 3) := by decide +kernel
theorem dX6_addFourBytes_29 : decode cX6_addFourBytes 29 = .ok (.return_, 1) := by decide +kernel
abbrev mX6_cutTo : zM := (yX6_cutTo, cX6_cutTo, 2, none, [])
theorem okX6_cutTo : zMok mX6_cutTo 1 := ⟨by decide, by decide, by decide +kernel⟩
theorem dX6_cutTo_0 : decode cX6_cutTo 0 = .ok (.iload_n 1, 1) := by decide +kernel
theorem dX6_cutTo_1 : decode cX6_cutTo 1 = .ok (.ifCond .lt 16, 3) := by decide +kernel
theorem dX6_cutTo_17 : decode cX6_cutTo 17 = .ok (.return_, 1) := by decide +kernel
theorem dX6_cutTo_4 : decode cX6_cutTo 4 = .ok (.iload_n 1, 1) := by decide +kernel
theorem dX6_cutTo_5 : decode cX6_cutTo 5 = .ok (.aload_n 0, 1) := by decide +kernel
theorem dX6_cutTo_6 : decode cX6_cutTo 6 = .ok (.getfield 15, 3) := by decide +kernel
theorem dX6_cutTo_9 : decode cX6_cutTo 9 = .ok (.if_icmp .gt 8, 3) := by decide +kernel
theorem dX6_cutTo_12 : decode cX6_cutTo 12 = .ok (.aload_n 0, 1) := by decide +kernel
theorem dX6_cutTo_13 : decode cX6_cutTo 13 = .ok (.iload_n 1, 1) := by decide +kernel
theorem dX6_cutTo_14 : decode cX6_cutTo 14 = .ok (.putfield 15, 3) := by decide +kernel
abbrev mX9_append : zM := (yX9_append, cX9_append, 6, (some .int), [])
theorem okX9_append : zMok mX9_append 5 := ⟨by decide, by decide, by decide +kernel⟩
theorem dX9_append_0 : decode cX9_append 0 = .ok (.aload_n 0, 1) := by decide +kernel
theorem dX9_append_1 : decode cX9_append 1 = .ok (.getfield 12, 3) := by decide +kernel
theorem fl_RX9_12 : zFl RX9 12 9 0 := ⟨RX9, TX9, 9, rfl, by decide, zmem1 561 (by decide +kernel) rfl, rfl⟩
theorem dX9_append_4 : decode cX9_append 4 = .ok (.bipush 20, 2) := by decide +kernel
theorem dX9_append_6 : decode cX9_append 6 = .ok (.invokevirtual 98, 3) := by decide +kernel
theorem cw_RX9_98 : zCwV RX9 98 mX6_hasRoomFor := zall [691, 692, 693, 32, 694] (by decide +kernel) (by decide +kernel)
theorem dX9_append_9 : decode cX9_append 9 = .ok (.ifCond .ne 13, 3) := by decide +kernel
theorem dX9_append_12 : decode cX9_append 12 = .ok (.new 102, 3) := by decide +kernel
theorem dX9_append_15 : decode cX9_append 15 = .ok (.dup, 1) := by decide +kernel
theorem dX9_append_16 : decode cX9_append 16 = .ok (.ldc 104, 2) := by decide +kernel
theorem dX9_append_18 : decode cX9_append 18 = .ok (.invokespecial 106, 3) := by decide +kernel
theorem dX9_append_21 : decode cX9_append 21 = .ok (.athrow, 1) := by decide +kernel
theorem dX9_append_22 : decode cX9_append 22 = .ok (.aload_n 0, 1) := by decide +kernel
theorem dX9_append_23 : decode cX9_append 23 = .ok (.getfield 12, 3) := by decide +kernel
theorem dX9_append_26 : decode cX9_append 26 = .ok (.iload_n 1, 1) := by decide +kernel
theorem dX9_append_27 : decode cX9_append 27 = .ok (.invokevirtual 108, 3) := by decide +kernel
theorem cw_RX9_108 : zCwV RX9 108 mX6_addFourBytes := zall [696, 697, 698, 32, 699] (by decide +kernel) (by decide +kernel)
theorem dX9_append_30 : decode cX9_append 30 = .ok (.aload_n 0, 1) := by decide +kernel
theorem dX9_append_31 : decode cX9_append 31 = .ok (.getfield 12, 3) := by decide +kernel
theorem dX9_append_34 : decode cX9_append 34 = .ok (.iload_n 2, 1) := by decide +kernel
theorem dX9_append_35 : decode cX9_append 35 = .ok (.invokevirtual 108, 3) := by decide +kernel
theorem dX9_append_38 : decode cX9_append 38 = .ok (.aload_n 0, 1) := by decide +kernel
theorem dX9_append_39 : decode cX9_append 39 = .ok (.getfield 12, 3) := by decide +kernel
theorem dX9_append_42 : decode cX9_append 42 = .ok (.iload_n 3, 1) := by decide +kernel
theorem dX9_append_43 : decode cX9_append 43 = .ok (.invokevirtual 108, 3) := by decide +kernel
theorem dX9_append_46 : decode cX9_append 46 = .ok (.aload_n 0, 1) := by decide +kernel
theorem dX9_append_47 : decode cX9_append 47 = .ok (.getfield 12, 3) := by decide +kernel
theorem dX9_append_50 : decode cX9_append 50 = .ok (.iload 4, 2) := by decide +kernel
theorem dX9_append_52 : decode cX9_append 52 = .ok (.invokevirtual 108, 3) := by decide +kernel
theorem dX9_append_55 : decode cX9_append 55 = .ok (.aload_n 0, 1) := by decide +kernel
theorem dX9_append_56 : decode cX9_append 56 = .ok (.getfield 12, 3) := by decide +kernel
theorem dX9_append_59 : decode cX9_append 59 = .ok (.iload 5, 2) := by decide +kernel
theorem dX9_append_61 : decode cX9_append 61 = .ok (.invokevirtual 108, 3) := by decide +kernel
theorem dX9_append_64 : decode cX9_append 64 = .ok (.aload_n 0, 1) := by decide +kernel
theorem dX9_append_65 : decode cX9_append 65 = .ok (.getfield 12, 3) := by decide +kernel
theorem dX9_append_68 : decode cX9_append 68 = .ok (.getfield 111, 3) := by decide +kernel
theorem fl_RX9_111 : zFl RX9 111 6 1 := ⟨RX6, TX6, 7, rfl, by decide, zmem1 63 (by decide +kernel) rfl, rfl⟩
theorem dX9_append_71 : decode cX9_append 71 = .ok (.ireturn, 1) := by decide +kernel
abbrev mX9_truncate : zM := (yX9_truncate, cX9_truncate, 2, (some .int), [])
theorem okX9_truncate : zMok mX9_truncate 1 := ⟨by decide, by decide, by decide +kernel⟩
theorem dX9_truncate_0 : decode cX9_truncate 0 = .ok (.iload_n 1, 1) := by decide +kernel
theorem dX9_truncate_1 : decode cX9_truncate 1 = .ok (.ifCond .lt 14, 3) := by decide +kernel
theorem dX9_truncate_15 : decode cX9_truncate 15 = .ok (.new 115, 3) := by decide +kernel
theorem dX9_truncate_18 : decode cX9_truncate 18 = .ok (.dup, 1) := by decide +kernel
theorem dX9_truncate_19 : decode cX9_truncate 19 = .ok (.ldc 117, 2) := by decide +kernel
theorem dX9_truncate_21 : decode cX9_truncate 21 = .ok (.invokespecial 119, 3) := by decide +kernel
theorem dX9_truncate_24 : decode cX9_truncate 24 = .ok (.athrow, 1) := by decide +kernel
theorem dX9_truncate_4 : decode cX9_truncate 4 = .ok (.iload_n 1, 1) := by decide +kernel
theorem dX9_truncate_5 : decode cX9_truncate 5 = .ok (.aload_n 0, 1) := by decide +kernel
theorem dX9_truncate_6 : decode cX9_truncate 6 = .ok (.getfield 12, 3) := by decide +kernel
theorem dX9_truncate_9 : decode cX9_truncate 9 = .ok (.getfield 111, 3) := by decide +kernel
theorem dX9_truncate_12 : decode cX9_truncate 12 = .ok (.if_icmp .le 13, 3) := by decide +kernel
theorem dX9_truncate_25 : decode cX9_truncate 25 = .ok (.aload_n 0, 1) := by decide +kernel
theorem dX9_truncate_26 : decode cX9_truncate 26 = .ok (.getfield 12, 3) := by decide +kernel
theorem dX9_truncate_29 : decode cX9_truncate 29 = .ok (.iload_n 1, 1) := by decide +kernel
theorem dX9_truncate_30 : decode cX9_truncate 30 = .ok (.invokevirtual 87, 3) := by decide +kernel
theorem cw_RX9_87 : zCwV RX9 87 mX6_cutTo := zall [541, 542, 543, 32, 544] (by decide +kernel) (by decide +kernel)
theorem dX9_truncate_33 : decode cX9_truncate 33 = .ok (.aload_n 0, 1) := by decide +kernel
theorem dX9_truncate_34 : decode cX9_truncate 34 = .ok (.getfield 12, 3) := by decide +kernel
theorem dX9_truncate_37 : decode cX9_truncate 37 = .ok (.getfield 111, 3) := by decide +kernel
theorem dX9_truncate_40 : decode cX9_truncate 40 = .ok (.ireturn, 1) := by decide +kernel
abbrev mX9_setAsideUnexplained : zM := (yX9_setAsideUnexplained, cX9_setAsideUnexplained, 3, (some .int), [])
theorem okX9_setAsideUnexplained : zMok mX9_setAsideUnexplained 0 := ⟨by decide, by decide, by decide +kernel⟩
theorem dX9_setAsideUnexplained_0 : decode cX9_setAsideUnexplained 0 = .ok (.aload_n 0, 1) := by decide +kernel
theorem dX9_setAsideUnexplained_1 : decode cX9_setAsideUnexplained 1 = .ok (.invokevirtual 240, 3) := by decide +kernel
theorem dX9_setAsideUnexplained_4 : decode cX9_setAsideUnexplained 4 = .ok (.aload_n 0, 1) := by decide +kernel
theorem dX9_setAsideUnexplained_5 : decode cX9_setAsideUnexplained 5 = .ok (.getfield 47, 3) := by decide +kernel
theorem dX9_setAsideUnexplained_8 : decode cX9_setAsideUnexplained 8 = .ok (.aload_n 0, 1) := by decide +kernel
theorem dX9_setAsideUnexplained_9 : decode cX9_setAsideUnexplained 9 = .ok (.getfield 33, 3) := by decide +kernel
theorem dX9_setAsideUnexplained_12 : decode cX9_setAsideUnexplained 12 = .ok (.invokevirtual 143, 3) := by decide +kernel
theorem dX9_setAsideUnexplained_15 : decode cX9_setAsideUnexplained 15 = .ok (.iconst 0, 1) := by decide +kernel
theorem dX9_setAsideUnexplained_16 : decode cX9_setAsideUnexplained 16 = .ok (.istore_n 1, 1) := by decide +kernel
theorem dX9_setAsideUnexplained_17 : decode cX9_setAsideUnexplained 17 = .ok (.iconst 0, 1) := by decide +kernel
theorem dX9_setAsideUnexplained_18 : decode cX9_setAsideUnexplained 18 = .ok (.istore_n 2, 1) := by decide +kernel
theorem dX9_setAsideUnexplained_19 : decode cX9_setAsideUnexplained 19 = .ok (.iload_n 2, 1) := by decide +kernel
theorem dX9_setAsideUnexplained_20 : decode cX9_setAsideUnexplained 20 = .ok (.aload_n 0, 1) := by decide +kernel
theorem dX9_setAsideUnexplained_21 : decode cX9_setAsideUnexplained 21 = .ok (.getfield 33, 3) := by decide +kernel
theorem dX9_setAsideUnexplained_24 : decode cX9_setAsideUnexplained 24 = .ok (.getfield 125, 3) := by decide +kernel
theorem dX9_setAsideUnexplained_27 : decode cX9_setAsideUnexplained 27 = .ok (.getfield 129, 3) := by decide +kernel
theorem dX9_setAsideUnexplained_30 : decode cX9_setAsideUnexplained 30 = .ok (.if_icmp .ge 36, 3) := by decide +kernel
theorem dX9_setAsideUnexplained_66 : decode cX9_setAsideUnexplained 66 = .ok (.aload_n 0, 1) := by decide +kernel
theorem dX9_setAsideUnexplained_67 : decode cX9_setAsideUnexplained 67 = .ok (.getfield 47, 3) := by decide +kernel
theorem dX9_setAsideUnexplained_70 : decode cX9_setAsideUnexplained 70 = .ok (.invokevirtual 151, 3) := by decide +kernel
theorem dX9_setAsideUnexplained_73 : decode cX9_setAsideUnexplained 73 = .ok (.iload_n 1, 1) := by decide +kernel
theorem dX9_setAsideUnexplained_74 : decode cX9_setAsideUnexplained 74 = .ok (.ireturn, 1) := by decide +kernel
theorem dX9_setAsideUnexplained_33 : decode cX9_setAsideUnexplained 33 = .ok (.aload_n 0, 1) := by decide +kernel
theorem dX9_setAsideUnexplained_34 : decode cX9_setAsideUnexplained 34 = .ok (.getfield 54, 3) := by decide +kernel
theorem dX9_setAsideUnexplained_37 : decode cX9_setAsideUnexplained 37 = .ok (.aload_n 0, 1) := by decide +kernel
theorem dX9_setAsideUnexplained_38 : decode cX9_setAsideUnexplained 38 = .ok (.getfield 33, 3) := by decide +kernel
theorem dX9_setAsideUnexplained_41 : decode cX9_setAsideUnexplained 41 = .ok (.iload_n 2, 1) := by decide +kernel
theorem dX9_setAsideUnexplained_42 : decode cX9_setAsideUnexplained 42 = .ok (.invokevirtual 267, 3) := by decide +kernel
theorem dX9_setAsideUnexplained_45 : decode cX9_setAsideUnexplained 45 = .ok (.ifCond .eq 15, 3) := by decide +kernel
theorem dX9_setAsideUnexplained_60 : decode cX9_setAsideUnexplained 60 = .ok (.iinc 2 1, 3) := by decide +kernel
theorem dX9_setAsideUnexplained_63 : decode cX9_setAsideUnexplained 63 = .ok (.goto (-44), 3) := by decide +kernel
theorem dX9_setAsideUnexplained_48 : decode cX9_setAsideUnexplained 48 = .ok (.aload_n 0, 1) := by decide +kernel
theorem dX9_setAsideUnexplained_49 : decode cX9_setAsideUnexplained 49 = .ok (.getfield 33, 3) := by decide +kernel
theorem dX9_setAsideUnexplained_52 : decode cX9_setAsideUnexplained 52 = .ok (.iload_n 2, 1) := by decide +kernel
theorem dX9_setAsideUnexplained_53 : decode cX9_setAsideUnexplained 53 = .ok (.invokevirtual 308, 3) := by decide +kernel
theorem dX9_setAsideUnexplained_56 : decode cX9_setAsideUnexplained 56 = .ok (.pop, 1) := by decide +kernel
theorem dX9_setAsideUnexplained_57 : decode cX9_setAsideUnexplained 57 = .ok (.iinc 1 1, 3) := by decide +kernel
/-! texts: the input of both, the output of both -/
def InC (σ : zS) (L : List Int) : Prop := σ.1 1 1 = L.length ∧ ∀ i : Nat, i < L.length → σ.1 2 i = zb8 (L.getD i 0)
def InM (σ : zS) (L : List Int) : Prop := σ.1 261 16 = L.length ∧ ∀ i : Nat, i < L.length → σ.1 269 i = L.getD i 0
def OutM (σ : zS) (L : List Int) : Prop := σ.1 261 27 = L.length ∧ ∀ i : Nat, i < L.length → σ.1 271 i = L.getD i 0
def txF (σ τ : zS) : Prop := zSame (fun q => q = 1 ∨ q = 2) σ τ ∧ ∀ i, i ≠ 1 → τ.1 1 i = σ.1 1 i
theorem txF_rf (σ : zS) : txF σ σ := ⟨zSame_rf _ _, fun _ _ => rfl⟩
theorem txF_tr {σ τ υ : zS} (h : txF σ τ) (h' : txF τ υ) : txF σ υ := ⟨zSame_tr h.1 h'.1 (fun _ q => q.elim id id), fun i hi => (h'.2 i hi).trans (h.2 i hi)⟩
def b4 (x : Int) : List Int := [zand (zshr x 24) 255, zand (zshr x 16) 255, zand (zshr x 8) 255, zand (zshr x 0) 255]
theorem b4_l (x : Int) : (b4 x).length = 4 := rfl
theorem getD_app (L : List Int) (v : Int) (i : Nat) : (L ++ [v]).getD i 0 = if i = L.length then v else L.getD i 0 := by
  simp only [List.getD_eq_getElem?_getD]
  by_cases q : i = L.length
  · rw [if_pos q, q]; simp
  · rw [if_neg q]
    by_cases q2 : i < L.length
    · rw [List.getElem?_append_left q2]
    · rw [List.getElem?_eq_none (by simp; omega), List.getElem?_eq_none (by omega)]
theorem InC_put {σ : zS} {L : List Int} {x v : Int} (h : InC σ L) (hv : zb8 x = zb8 v) : InC (zput (zput σ 2 (σ.1 1 1).toNat (zb8 x)) 1 1 (σ.1 1 1 + 1)) (L ++ [v]) := by
  obtain ⟨h1, h2⟩ := h
  refine ⟨(zput_s _ _ _ _).trans (by rw [h1, List.length_append]; rfl), fun i hi => (zput_k _ _ _ _ _ (by omega)).trans ?_⟩
  rw [List.length_append] at hi
  have hi2 : i < L.length + 1 := hi
  rw [getD_app, h1, Int.toNat_natCast, zput_e]
  by_cases q : i = L.length
  · rw [if_pos ⟨rfl, q⟩, if_pos q, hv]
  · rw [if_neg (fun z => q z.2), if_neg q]; exact h2 i (by omega)
theorem InM_put {σ : zS} {L : List Int} {v : Int} (h : InM σ L) : InM (zput (zput σ 269 (σ.1 261 16).toNat v) 261 16 (σ.1 261 16 + 1)) (L ++ [v]) := by
  obtain ⟨h1, h2⟩ := h
  refine ⟨(zput_s _ _ _ _).trans (by rw [h1, List.length_append]; rfl), fun i hi => (zput_k _ _ _ _ _ (by omega)).trans ?_⟩
  rw [List.length_append] at hi
  have hi2 : i < L.length + 1 := hi
  rw [getD_app, h1, Int.toNat_natCast, zput_e]
  by_cases q : i = L.length
  · rw [if_pos ⟨rfl, q⟩, if_pos q]
  · rw [if_neg (fun z => q z.2), if_neg q]; exact h2 i (by omega)
theorem OutM_put {σ : zS} {L : List Int} {v : Int} (h : OutM σ L) : OutM (zput (zput σ 271 (σ.1 261 27).toNat v) 261 27 (σ.1 261 27 + 1)) (L ++ [v]) := by
  obtain ⟨h1, h2⟩ := h
  refine ⟨(zput_s _ _ _ _).trans (by rw [h1, List.length_append]; rfl), fun i hi => (zput_k _ _ _ _ _ (by omega)).trans ?_⟩
  rw [List.length_append] at hi
  have hi2 : i < L.length + 1 := hi
  rw [getD_app, h1, Int.toNat_natCast, zput_e]
  by_cases q : i = L.length
  · rw [if_pos ⟨rfl, q⟩, if_pos q]
  · rw [if_neg (fun z => q z.2), if_neg q]; exact h2 i (by omega)
theorem getD_take (L : List Int) (n i : Nat) (h : i < n) : (L.take n).getD i 0 = L.getD i 0 := by
  simp only [List.getD_eq_getElem?_getD, List.getElem?_take, h, if_true]
theorem byte_0 (x : Int) : zb8 x = zb8 (zand (zshr x 0) 255) := by
  have e : zshr x 0 = (Int32.ofInt x).toInt := by
    unfold zshr
    have e : (Int32.ofInt 0 &&& 31) = 0 := by decide
    rw [e]; simp
  rw [e, zand_255]
  have h := z_ti (Int32.ofInt x)
  have h2 := z_nn x
  apply zb8_c
  rw [h]
  split <;> omega
/-! the letters of a name -/
def ltL (f : Nat → Int) : Nat → List Int
  | 0 => []
  | n + 1 => ltL f n ++ [f n]
theorem ltL_l (f : Nat → Int) : ∀ n, (ltL f n).length = n
  | 0 => rfl
  | n + 1 => by rw [ltL, List.length_append, ltL_l f n]; rfl
theorem nm_d {x : Int} (hx : 0 ≤ x ∧ x < 1073741824) {i : Nat} (hi : i ≤ 5) : zand (zushr x (5 * (i : Int))) 31 = x / ((32 ^ i : Nat) : Int) % 32 := by
  rw [zand_31, zushr_nn hx.1 (by unfold zr; omega) (by omega)]
  have e : (5 * (i : Int)).toNat = 5 * i := by omega
  rw [e, Nat.pow_mul]
theorem pkF_b {f : Nat → Int} : ∀ {n : Nat}, n ≤ 6 → (∀ k, k < n → 97 ≤ f k ∧ f k ≤ 122) → 0 ≤ pkF f n ∧ pkF f n < ((32 ^ n : Nat) : Int)
  | 0, _, _ => ⟨Int.le_refl _, by show (0 : Int) < 1; omega⟩
  | n + 1, h1, h => by
    have := pkF_b (f := f) (n := n) (by omega) (fun k hk => h k (by omega))
    have hn := h n (Nat.lt_succ_self n)
    rw [pkF]
    have e : ((32 ^ (n + 1) : Nat) : Int) = ((32 ^ n : Nat) : Int) * 32 := by rw [Nat.pow_succ, Int.natCast_mul]; rfl
    rw [e]
    omega
theorem nmL_s (x : Int) (i : Nat) : nmL x (i + 1) = (if zand (zushr x (5 * (i : Int))) 31 = 0 then [] else [97 + zand (zushr x (5 * (i : Int))) 31 - 1]) ++ nmL x i := rfl
theorem nmL_lo {x : Int} : ∀ {m n : Nat}, n ≤ m → m ≤ 6 → 0 ≤ x → x < ((32 ^ n : Nat) : Int) → nmL x m = nmL x n
  | 0, n, h, _, _, _ => by rw [show n = 0 by omega]
  | m + 1, n, h, hm, h0, hx => by
    by_cases e : n = m + 1
    · rw [e]
    · have hp : 32 ^ n ≤ 32 ^ m := Nat.pow_le_pow_right (by omega) (by omega)
      have hp6 : 32 ^ m ≤ 32 ^ 5 := Nat.pow_le_pow_right (by omega) (by omega)
      have e6 : (32 : Nat) ^ 5 = 33554432 := by decide
      have hxm : x < ((32 ^ m : Nat) : Int) := by omega
      rw [nmL_s, nm_d ⟨h0, by omega⟩ (by omega), Int.ediv_eq_zero_of_lt h0 hxm]
      rw [if_pos (by decide), List.nil_append]
      exact nmL_lo (by omega) (by omega) h0 hx
/-- the digits above the lowest ones are those of the quotient -/
theorem nmL_hi {x d : Int} (h0 : 0 ≤ x) (hx : x < 33554432) (hd : 1 ≤ d ∧ d ≤ 26) : ∀ {m : Nat}, m ≤ 5 → nmL (32 * x + d) (m + 1) = nmL x m ++ [96 + d]
  | 0, _ => by
    rw [nmL_s, nm_d ⟨by omega, by omega⟩ (by omega)]
    show (if (32 * x + d) / 1 % 32 = 0 then [] else [97 + (32 * x + d) / 1 % 32 - 1]) ++ [] = [] ++ [96 + d]
    have e : (32 * x + d) / 1 % 32 = d := by omega
    rw [e, if_neg (by omega)]
    simp; omega
  | m + 1, hm => by
    rw [nmL_s, nmL_hi h0 hx hd (by omega), nmL_s, nm_d ⟨by omega, by omega⟩ (by omega), nm_d ⟨h0, by omega⟩ (by omega)]
    have e : (32 * x + d) / ((32 ^ (m + 1) : Nat) : Int) = x / ((32 ^ m : Nat) : Int) := by
      have e2 : ((32 ^ (m + 1) : Nat) : Int) = 32 * ((32 ^ m : Nat) : Int) := by rw [Nat.pow_succ, Int.natCast_mul, Int.mul_comm]; rfl
      rw [e2, ← Int.ediv_ediv_of_nonneg (by omega)]
      have e3 : (32 * x + d) / 32 = x := by omega
      rw [e3]
    rw [e, List.append_assoc]
theorem nmL_pk {f : Nat → Int} : ∀ {n : Nat}, n ≤ 6 → (∀ k, k < n → 97 ≤ f k ∧ f k ≤ 122) → nmL (pkF f n) n = ltL f n
  | 0, _, _ => rfl
  | n + 1, h1, h => by
    have hb := pkF_b (f := f) (n := n) (by omega) (fun k hk => h k (by omega))
    have hn := h n (Nat.lt_succ_self n)
    have hp : 32 ^ n ≤ 32 ^ 5 := Nat.pow_le_pow_right (by omega) (by omega)
    have e6 : (32 : Nat) ^ 5 = 33554432 := by decide
    rw [pkF, nmL_hi hb.1 (by omega) (by omega) (by omega), nmL_pk (by omega) (fun k hk => h k (by omega)), ltL, show 96 + (f n - 96) = f n by omega]
theorem nmL_6 {f : Nat → Int} {n : Nat} (hn : n ≤ 6) (h : ∀ k, k < n → 97 ≤ f k ∧ f k ≤ 122) : nmL (pkF f n) 6 = ltL f n := by
  have hb := pkF_b hn h
  rw [nmL_lo (m := 6) hn (Nat.le_refl _) hb.1 hb.2, nmL_pk hn h]
/-! the verdict's text -/
noncomputable def fmC (D : zBk) : Nat → List Int
  | 0 => []
  | n + 1 => fmC D n ++ @ite (List Int) (Ht D (D 19 n).toNat) (Classical.propDecidable _) ([@ite Int (opn D (D 19 n).toNat) (Classical.propDecidable _) 45 43] ++ dgL (D 19 n)) []
noncomputable def fmL (D : zBk) (n : Nat) : List Int := nmL (D 2 (wP D (Ht D))) 6 ++ [32] ++ dgL (wY D (Ht D)) ++ fmC D n
theorem fmL_n {D : zBk} {n : Nat} (h : ¬ Ht D (D 19 n).toNat) : fmL D (n + 1) = fmL D n := by
  unfold fmL; rw [fmC, if_neg h, List.append_nil]
theorem fmL_o {D : zBk} {n : Nat} (h : Ht D (D 19 n).toNat) (h2 : opn D (D 19 n).toNat) : fmL D (n + 1) = (fmL D n ++ [45]) ++ dgL (D 19 n) := by
  unfold fmL; rw [fmC, if_pos h, if_pos h2]; simp
theorem fmL_e {D : zBk} {n : Nat} (h : Ht D (D 19 n).toNat) (h2 : ¬ opn D (D 19 n).toNat) : fmL D (n + 1) = (fmL D n ++ [43]) ++ dgL (D 19 n) := by
  unfold fmL; rw [fmC, if_pos h, if_neg h2]; simp
theorem dgL_l (x : Int) : (dgL x).length ≤ 4 := by
  unfold dgL
  simp only [List.length_append]
  (repeat' split) <;> simp
theorem dgL_l2 {x : Int} (h : x < 100) : (dgL x).length ≤ 2 := by
  unfold dgL
  simp only [List.length_append]
  rw [if_neg (by omega), if_neg (by omega)]
  split <;> simp
theorem nmL_l (x : Int) : ∀ n, (nmL x n).length ≤ n
  | 0 => Nat.le_refl _
  | n + 1 => by
    have := nmL_l x n
    rw [nmL_s, List.length_append]
    split <;> simp <;> omega
theorem fmC_l {D : zBk} (w : WF D) : ∀ n : Nat, (n : Int) ≤ D 12 0 → (fmC D n).length ≤ 3 * n
  | 0, _ => Nat.le_refl _
  | n + 1, h => by
    have := fmC_l w n (by omega)
    have ho := w.2.2.2.2.2.1 n (by omega)
    have hk := w.1.2.2.2
    have hd := dgL_l2 (x := D 19 n) (by omega)
    rw [fmC, List.length_append]
    split
    · rw [List.length_append]; simp; omega
    · simp; omega
theorem fmL_l {D : zBk} (w : WF D) {n : Nat} (h : (n : Int) ≤ D 12 0) : (fmL D n).length ≤ 11 + 3 * n := by
  unfold fmL
  have h1 := nmL_l (D 2 (wP D (Ht D))) 6
  have h2 := dgL_l (wY D (Ht D))
  have h3 := fmC_l w n h
  simp only [List.length_append, List.length_singleton]
  omega
theorem fmC_eq {D D' : zBk} (z : pEq D D') (w : WF D) (h1 : 1 ≤ D 1 0) : ∀ n : Nat, (n : Int) ≤ D 12 0 → fmC D' n = fmC D n
  | 0, _ => rfl
  | n + 1, h => by
    have ho := w.2.2.2.2.2.1 n (by omega)
    have e19 : D' 19 n = D 19 n := z 19 (by omega) n
    rw [fmC, fmC, fmC_eq z w h1 n (by omega), e19]
    have a := Ht_eq (pEq_z z) w (c := (D 19 n).toNat) (by omega)
    have b := opn_ag z w h1 (c := (D 19 n).toNat) (by omega)
    congr 1
    by_cases q : Ht D (D 19 n).toNat
    · rw [if_pos q, if_pos (a.mpr q)]
      by_cases q2 : opn D (D 19 n).toNat
      · rw [if_pos q2, if_pos (b.mpr q2)]
      · rw [if_neg q2, if_neg (fun q3 => q2 (b.mp q3))]
    · rw [if_neg q, if_neg (fun q3 => q (a.mp q3))]
/-- a number written from its highest place down -/
theorem wr_end {v by_ : Int} : True := trivial

theorem fm_0 (D : zBk) : fmL D 0 = nmL (D 2 (wP D (Ht D))) 6 ++ [32] ++ dgL (wY D (Ht D)) := List.append_nil _

theorem lEq_sy {D D' : zBk} (h : lEq D D') : lEq D' D := by
  obtain ⟨⟨a1, a2, a3, a4⟩, b, c, d, e⟩ := h
  exact ⟨⟨a1.symm, a2.symm, a3.symm, a4.symm⟩, fun p hp o h1 h2 => (b p (by rw [← a1]; exact hp) o h1 h2).symm, fun q hq => ⟨(c q (by rw [← a2]; exact hq)).1.symm, (c q (by rw [← a2]; exact hq)).2.symm⟩, fun q hq => ⟨(d q (by rw [← a3]; exact hq)).1.symm, (d q (by rw [← a3]; exact hq)).2.symm⟩, fun k hk o h1 h2 => (e k (by rw [← a4]; exact hk) o h1 h2).symm⟩
theorem clP_fi {D : zBk} {n : Nat} (h : ¬ opn D n) (i : Nat) : clP D (n + 1) 18 i = clP D n 18 i := by
  unfold clP
  by_cases e2 : (18 : Nat) = 18 ∧ i < n ∧ zb (opn D i) = 1
  · rw [if_pos e2, if_pos ⟨e2.1, by omega, e2.2.2⟩]
  · rw [if_neg e2, if_neg (fun q => by
      by_cases e3 : i = n
      · subst e3; have := q.2.2; rw [zb_f h] at this; omega
      · exact e2 ⟨q.1, by omega, q.2.2⟩)]
theorem clP_ti {D : zBk} {n : Nat} {f : Nat → Int} (h : opn D n) (h2 : ∀ i, f i = clP D n 18 i) (i : Nat) : (if (48 : Nat) = 48 ∧ i = n then 1 else f i) = clP D (n + 1) 18 i := by
  by_cases e : i = n
  · subst e
    rw [if_pos ⟨rfl, rfl⟩]; exact (if_pos ⟨rfl, Nat.lt_succ_self _, zb_t h⟩).symm
  · rw [if_neg (fun q => e q.2), h2]
    unfold clP
    by_cases e2 : (18 : Nat) = 18 ∧ i < n ∧ zb (opn D i) = 1
    · rw [if_pos e2, if_pos ⟨e2.1, by omega, e2.2.2⟩]
    · rw [if_neg e2, if_neg (by omega)]

set_option maxRecDepth 20000 in
set_option maxHeartbeats 2000000 in
theorem sX6_hasRoomFor {l : Launch} {w : zW} (hfl : l.stackTraces = false) {σ : zS} {x : Int} (hz : zOK σ) (hx : zr x) (hl : 0 ≤ σ.1 1 1 ∧ σ.1 1 1 ≤ 1400) : Sp l w mX6_hasRoomFor 0 0 [zf 6 1, zi x] σ (zret (zi (zb (0 ≤ x ∧ x ≤ 1400 - σ.1 1 1))) σ) := by
  obtain ⟨Q, hQ⟩ : ∃ Q : zQ, Q = (zret (zi (zb (0 ≤ x ∧ x ≤ 1400 - σ.1 1 1))) σ) := ⟨_, rfl⟩
  rw [← hQ]
  refine zx_enter hfl (by decide) rfl 0 rfl ?_
  show zX l w mX6_hasRoomFor (zMQ w 0 0 Q) 0 [zf 6 1, zi x] [] 0 σ
  refine zx_iloadN dX6_hasRoomFor_0 rfl rfl ?_
  refine zx_if_lt (tgt := 20) (by first | exact hz _ _ | assumption | exact zr_b _ | exact zcmp_r _ _ | (unfold zr at *; omega)) dX6_hasRoomFor_1 (by decide) (fun h1 => ?_) (fun h1 => ?_)
  · refine zx_iconst dX6_hasRoomFor_20 ?_
    refine zx_iret rfl rfl dX6_hasRoomFor_21 ?_
    rw [hQ]
    refine ⟨congrArg (fun z : Int => (Sum.inl (some (zi z)) : Option zV ⊕ String)) ?_, by first | rfl | (exfalso; omega)⟩
    first | rfl | exact (zb_t (by first | assumption | omega)).symm | exact (zb_f (by first | assumption | omega)).symm | exact zb_c (by constructor <;> intro q <;> omega)
  · refine zx_iloadN dX6_hasRoomFor_4 rfl rfl ?_
    refine zx_sipush dX6_hasRoomFor_5 rfl ?_
    refine zx_aloadN dX6_hasRoomFor_8 rfl rfl ?_
    refine zy_getI fl_RX6_15 rfl dX6_hasRoomFor_9 rfl ?_
    refine zx_isub dX6_hasRoomFor_12 ?_
    refine zx_icmp_gt (tgt := 20) (by first | exact hz _ _ | assumption | exact zr_b _ | exact zcmp_r _ _ | (unfold zr at *; omega)) (by first | exact hz _ _ | assumption | exact zr_b _ | exact zcmp_r _ _ | (unfold zr at *; omega)) dX6_hasRoomFor_13 (by decide) (fun h13 => ?_) (fun h13 => ?_)
    · refine zx_iconst dX6_hasRoomFor_20 ?_
      refine zx_iret rfl rfl dX6_hasRoomFor_21 ?_
      rw [hQ]
      refine ⟨congrArg (fun z : Int => (Sum.inl (some (zi z)) : Option zV ⊕ String)) ?_, by first | rfl | (exfalso; omega)⟩
      first | rfl | exact (zb_t (by first | assumption | omega)).symm | exact (zb_f (by first | assumption | omega)).symm | exact zb_c (by constructor <;> intro q <;> omega)
    · refine zx_iconst dX6_hasRoomFor_16 ?_
      refine zx_goto (tgt := 21) dX6_hasRoomFor_17 (by decide) ?_
      refine zx_iret rfl rfl dX6_hasRoomFor_21 ?_
      rw [hQ]
      refine ⟨congrArg (fun z : Int => (Sum.inl (some (zi z)) : Option zV ⊕ String)) ?_, by first | rfl | (exfalso; omega)⟩
      first | rfl | exact (zb_t (by first | assumption | omega)).symm | exact (zb_f (by first | assumption | omega)).symm | exact zb_c (by constructor <;> intro q <;> omega)
set_option maxRecDepth 20000 in
set_option maxHeartbeats 2000000 in
theorem sX6_addByte {l : Launch} {w : zW} (hfl : l.stackTraces = false) {σ : zS} {x v : Int} {L : List Int} (hz : zOK σ) (hx : zr x) (hL : InC σ L) (hl : L.length < 1400) (hv : zb8 x = zb8 v) : Sp l w mX6_addByte 0 0 [zf 6 1, zi x] σ (zqv (none) (fun τ => zOK τ ∧ txF σ τ ∧ InC τ (L ++ [v]))) := by
  obtain ⟨Q, hQ⟩ : ∃ Q : zQ, Q = (zqv (none) (fun τ => zOK τ ∧ txF σ τ ∧ InC τ (L ++ [v]))) := ⟨_, rfl⟩
  rw [← hQ]
  refine zx_enter hfl (by decide) rfl 0 rfl ?_
  show zX l w mX6_addByte (zMQ w 0 0 Q) 0 [zf 6 1, zi x] [] 0 σ
  have hL1 := hL.1
  refine zx_aloadN dX6_addByte_0 rfl rfl ?_
  refine zy_getI fl_RX6_15 rfl dX6_addByte_1 rfl ?_
  refine zx_if_lt (tgt := 40) (by first | exact hz _ _ | assumption | exact zr_b _ | exact zcmp_r _ _ | (unfold zr at *; omega)) dX6_addByte_4 (by decide) (fun h4 => ?_) (fun h4 => ?_)
  · refine zx_vret rfl dX6_addByte_40 ?_
    rw [hQ]
    refine ⟨rfl, ?_⟩
    first
    | (exfalso; omega)
    | exact ⟨hz, ⟨⟨fun q hq i => by have hq2 := hq; dsimp only at hq2; exact (zput_k _ _ _ _ _ (by omega)).trans (zput_k _ _ _ _ _ (by omega)), rfl⟩, fun i hi => (zput_i _ _ _ _ _ hi).trans (zput_k _ _ _ _ _ (by omega))⟩, InC_put hL hv⟩
  · refine zx_aloadN dX6_addByte_7 rfl rfl ?_
    refine zy_getI fl_RX6_15 rfl dX6_addByte_8 rfl ?_
    refine zx_aloadN dX6_addByte_11 rfl rfl ?_
    refine zy_getR (q' := 2) fl_RX6_9 rfl dX6_addByte_12 rfl ?_
    refine zx_alen (kd := 1) (n := 1400) rfl (by decide) (by decide) (by decide) dX6_addByte_15 ?_
    refine zx_icmp_ge (tgt := 40) (by first | exact hz _ _ | assumption | exact zr_b _ | exact zcmp_r _ _ | (unfold zr at *; omega)) (by first | exact hz _ _ | assumption | exact zr_b _ | exact zcmp_r _ _ | (unfold zr at *; omega)) dX6_addByte_16 (by decide) (fun h16 => ?_) (fun h16 => ?_)
    · refine zx_vret rfl dX6_addByte_40 ?_
      rw [hQ]
      refine ⟨rfl, ?_⟩
      first
      | (exfalso; omega)
      | exact ⟨hz, ⟨⟨fun q hq i => by have hq2 := hq; dsimp only at hq2; exact (zput_k _ _ _ _ _ (by omega)).trans (zput_k _ _ _ _ _ (by omega)), rfl⟩, fun i hi => (zput_i _ _ _ _ _ hi).trans (zput_k _ _ _ _ _ (by omega))⟩, InC_put hL hv⟩
    · refine zx_aloadN dX6_addByte_19 rfl rfl ?_
      refine zy_getR (q' := 2) fl_RX6_9 rfl dX6_addByte_20 rfl ?_
      refine zx_aloadN dX6_addByte_23 rfl rfl ?_
      refine zy_getI fl_RX6_15 rfl dX6_addByte_24 rfl ?_
      refine zx_iloadN dX6_addByte_27 rfl rfl ?_
      refine zx_i2b dX6_addByte_28 ?_
      refine zy_bast (i := (σ.1 1 1).toNat) (u := zb8 x) rfl (by decide) (by decide) dX6_addByte_29 (by omega) (by omega) rfl (zb8_idem _) ?_
      refine zx_aloadN dX6_addByte_30 rfl rfl ?_
      refine zx_dup rfl dX6_addByte_31 ?_
      refine zy_getI (v := σ.1 1 1) fl_RX6_15 rfl dX6_addByte_32 (zput_k _ _ _ _ _ (by omega)) ?_
      refine zx_iconst dX6_addByte_35 ?_
      refine zx_iadd dX6_addByte_36 ?_
      refine zx_putI fl_RX6_15 rfl (Or.inl fp_6_1) dX6_addByte_37 ?_
      refine zx_vret rfl dX6_addByte_40 ?_
      rw [hQ]
      refine ⟨rfl, ?_⟩
      first
      | (exfalso; omega)
      | exact ⟨(zOK_put (zOK_put hz (zr_b8 _)) (by first | exact hz _ _ | assumption | exact zr_b _ | exact zcmp_r _ _ | (unfold zr at *; omega))), ⟨⟨fun q hq i => by have hq2 := hq; dsimp only at hq2; exact (zput_k _ _ _ _ _ (by omega)).trans (zput_k _ _ _ _ _ (by omega)), rfl⟩, fun i hi => (zput_i _ _ _ _ _ hi).trans (zput_k _ _ _ _ _ (by omega))⟩, InC_put hL hv⟩
set_option maxRecDepth 20000 in
set_option maxHeartbeats 2000000 in
theorem sX6_addFourBytes {l : Launch} {w : zW} (hfl : l.stackTraces = false) {σ : zS} {x : Int} {L : List Int} (hz : zOK σ) (hx : zr x) (hL : InC σ L) (hl : L.length + 4 ≤ 1400) : Sp l w mX6_addFourBytes 1 0 [zf 6 1, zi x] σ (zqv (none) (fun τ => zOK τ ∧ txF σ τ ∧ InC τ (L ++ b4 x))) := by
  obtain ⟨Q, hQ⟩ : ∃ Q : zQ, Q = (zqv (none) (fun τ => zOK τ ∧ txF σ τ ∧ InC τ (L ++ b4 x))) := ⟨_, rfl⟩
  rw [← hQ]
  refine zx_enter hfl (by decide) rfl 0 rfl ?_
  show zX l w mX6_addFourBytes (zMQ w 1 0 Q) 0 [zf 6 1, zi x] [] 0 σ
  refine zx_aloadN dX6_addFourBytes_0 rfl rfl ?_
  refine zx_iloadN dX6_addFourBytes_1 rfl rfl ?_
  refine zx_bipush dX6_addFourBytes_2 rfl ?_
  refine zx_iushr dX6_addFourBytes_4 ?_
  refine zy_cvvR [zi (zushr x 24)] (sX6_addByte (L := L) (v := (zand (zshr x 24) 255)) hfl hz (by first | exact hz _ _ | assumption | exact zr_b _ | exact zcmp_r _ _ | exact zr_t _ | (unfold zr at *; omega)) hL (by omega) (byte_same hx (by omega))) dX6_addFourBytes_5 (by decide) rfl cw_RX6_34 okX6_addByte rfl (Nat.le_of_ble_eq_true rfl) ⟨Nat.le_of_ble_eq_true rfl, Nat.le_of_ble_eq_true rfl, Nat.le_of_ble_eq_true rfl, Nat.le_of_ble_eq_true rfl⟩ (fun τ5 hr5 => ?_)
  have hz5 : zOK τ5 := hr5.1
  refine zx_aloadN dX6_addFourBytes_8 rfl rfl ?_
  refine zx_iloadN dX6_addFourBytes_9 rfl rfl ?_
  refine zx_bipush dX6_addFourBytes_10 rfl ?_
  refine zx_iushr dX6_addFourBytes_12 ?_
  refine zy_cvvR [zi (zushr x 16)] (sX6_addByte (L := (L ++ [zand (zshr x 24) 255])) (v := (zand (zshr x 16) 255)) hfl hz5 (by first | exact hz5 _ _ | assumption | exact zr_b _ | exact zcmp_r _ _ | exact zr_t _ | (unfold zr at *; omega)) hr5.2.2 (by simp only [List.length_append, List.length_singleton]; omega) (byte_same hx (by omega))) dX6_addFourBytes_13 (by decide) rfl cw_RX6_34 okX6_addByte rfl (Nat.le_of_ble_eq_true rfl) ⟨Nat.le_of_ble_eq_true rfl, Nat.le_of_ble_eq_true rfl, Nat.le_of_ble_eq_true rfl, Nat.le_of_ble_eq_true rfl⟩ (fun τ13 hr13 => ?_)
  have hz13 : zOK τ13 := hr13.1
  refine zx_aloadN dX6_addFourBytes_16 rfl rfl ?_
  refine zx_iloadN dX6_addFourBytes_17 rfl rfl ?_
  refine zx_bipush dX6_addFourBytes_18 rfl ?_
  refine zx_iushr dX6_addFourBytes_20 ?_
  refine zy_cvvR [zi (zushr x 8)] (sX6_addByte (L := ((L ++ [zand (zshr x 24) 255]) ++ [zand (zshr x 16) 255])) (v := (zand (zshr x 8) 255)) hfl hz13 (by first | exact hz13 _ _ | assumption | exact zr_b _ | exact zcmp_r _ _ | exact zr_t _ | (unfold zr at *; omega)) hr13.2.2 (by simp only [List.length_append, List.length_singleton]; omega) (byte_same hx (by omega))) dX6_addFourBytes_21 (by decide) rfl cw_RX6_34 okX6_addByte rfl (Nat.le_of_ble_eq_true rfl) ⟨Nat.le_of_ble_eq_true rfl, Nat.le_of_ble_eq_true rfl, Nat.le_of_ble_eq_true rfl, Nat.le_of_ble_eq_true rfl⟩ (fun τ21 hr21 => ?_)
  have hz21 : zOK τ21 := hr21.1
  refine zx_aloadN dX6_addFourBytes_24 rfl rfl ?_
  refine zx_iloadN dX6_addFourBytes_25 rfl rfl ?_
  refine zy_cvvR [zi x] (sX6_addByte (L := (((L ++ [zand (zshr x 24) 255]) ++ [zand (zshr x 16) 255]) ++ [zand (zshr x 8) 255])) (v := (zand (zshr x 0) 255)) hfl hz21 (by first | exact hz21 _ _ | assumption | exact zr_b _ | exact zcmp_r _ _ | exact zr_t _ | (unfold zr at *; omega)) hr21.2.2 (by simp only [List.length_append, List.length_singleton]; omega) (byte_0 x)) dX6_addFourBytes_26 (by decide) rfl cw_RX6_34 okX6_addByte rfl (Nat.le_of_ble_eq_true rfl) ⟨Nat.le_of_ble_eq_true rfl, Nat.le_of_ble_eq_true rfl, Nat.le_of_ble_eq_true rfl, Nat.le_of_ble_eq_true rfl⟩ (fun τ26 hr26 => ?_)
  have hz26 : zOK τ26 := hr26.1
  refine zx_vret rfl dX6_addFourBytes_29 ?_
  rw [hQ]
  refine ⟨rfl, ?_⟩
  exact ⟨hz26, txF_tr (txF_tr (txF_tr hr5.2.1 hr13.2.1) hr21.2.1) hr26.2.1, by have h := hr26.2.2; simpa [b4] using h⟩
set_option maxRecDepth 20000 in
set_option maxHeartbeats 2000000 in
theorem sX6_cutTo {l : Launch} {w : zW} (hfl : l.stackTraces = false) {σ : zS} {x : Int} (hz : zOK σ) (hx : 0 ≤ x ∧ x ≤ σ.1 1 1) (hl : 0 ≤ σ.1 1 1 ∧ σ.1 1 1 ≤ 1400) : Sp l w mX6_cutTo 0 0 [zf 6 1, zi x] σ (zrtv (zput σ 1 1 x)) := by
  obtain ⟨Q, hQ⟩ : ∃ Q : zQ, Q = (zrtv (zput σ 1 1 x)) := ⟨_, rfl⟩
  rw [← hQ]
  refine zx_enter hfl (by decide) rfl 0 rfl ?_
  show zX l w mX6_cutTo (zMQ w 0 0 Q) 0 [zf 6 1, zi x] [] 0 σ
  have hx2 : zr x := by unfold zr; omega
  refine zx_iloadN dX6_cutTo_0 rfl rfl ?_
  refine zx_if_lt (tgt := 17) (by first | exact hz _ _ | assumption | exact zr_b _ | exact zcmp_r _ _ | (unfold zr at *; omega)) dX6_cutTo_1 (by decide) (fun h1 => ?_) (fun h1 => ?_)
  · refine zx_vret rfl dX6_cutTo_17 ?_
    rw [hQ]
    exact ⟨rfl, by first | rfl | (exfalso; omega)⟩
  · refine zx_iloadN dX6_cutTo_4 rfl rfl ?_
    refine zx_aloadN dX6_cutTo_5 rfl rfl ?_
    refine zy_getI fl_RX6_15 rfl dX6_cutTo_6 rfl ?_
    refine zx_icmp_gt (tgt := 17) (by first | exact hz _ _ | assumption | exact zr_b _ | exact zcmp_r _ _ | (unfold zr at *; omega)) (by first | exact hz _ _ | assumption | exact zr_b _ | exact zcmp_r _ _ | (unfold zr at *; omega)) dX6_cutTo_9 (by decide) (fun h9 => ?_) (fun h9 => ?_)
    · refine zx_vret rfl dX6_cutTo_17 ?_
      rw [hQ]
      exact ⟨rfl, by first | rfl | (exfalso; omega)⟩
    · refine zx_aloadN dX6_cutTo_12 rfl rfl ?_
      refine zx_iloadN dX6_cutTo_13 rfl rfl ?_
      refine zx_putI fl_RX6_15 rfl (Or.inl fp_6_1) dX6_cutTo_14 ?_
      refine zx_vret rfl dX6_cutTo_17 ?_
      rw [hQ]
      exact ⟨rfl, by first | rfl | (exfalso; omega)⟩
set_option maxRecDepth 20000 in
set_option maxHeartbeats 2000000 in
theorem sX9_append_f1 {l : Launch} {w : zW} (hfl : l.stackTraces = false) {σ : zS} {x0 x1 x2 x3 x4 : Int} {L : List Int} (hz : zOK σ) (hx0 : zr x0) (hx1 : zr x1) (hx2 : zr x2) (hx3 : zr x3) (hx4 : zr x4) (hL : InC σ L) (hl : L.length ≤ 1400) (hw : 1380 < L.length) : Sp l w mX9_append 6 1 [zf 9 0, zi x0, zi x1, zi x2, zi x3, zi x4] σ (zthr "java/lang/IllegalStateException" σ) := by
  obtain ⟨Q, hQ⟩ : ∃ Q : zQ, Q = (zthr "java/lang/IllegalStateException" σ) := ⟨_, rfl⟩
  rw [← hQ]
  refine zx_enter hfl (by decide) rfl 0 rfl ?_
  show zX l w mX9_append (zMQ w 6 1 Q) 0 [zf 9 0, zi x0, zi x1, zi x2, zi x3, zi x4] [] 0 σ
  have hL1 := hL.1
  refine zx_aloadN dX9_append_0 rfl rfl ?_
  refine zy_getR (q' := 1) fl_RX9_12 rfl dX9_append_1 rfl ?_
  refine zx_bipush dX9_append_4 rfl ?_
  refine zy_cv [zi 20] (sX6_hasRoomFor  hfl hz (by first | exact hz _ _ | assumption | exact zr_b _ | exact zcmp_r _ _ | (unfold zr at *; omega)) (by first | assumption | omega)) dX9_append_6 (by decide) rfl cw_RX9_98 okX6_hasRoomFor rfl (Nat.le_of_ble_eq_true rfl) ⟨Nat.le_of_ble_eq_true rfl, Nat.le_of_ble_eq_true rfl, Nat.le_of_ble_eq_true rfl, Nat.le_of_ble_eq_true rfl⟩ ?_
  refine zx_if_ne (tgt := 22) (by first | exact hz _ _ | assumption | exact zr_b _ | exact zcmp_r _ _ | (unfold zr at *; omega)) dX9_append_9 (by decide) (fun h9 => ?_) (fun h9 => ?_)
  · have h9 := zb_n.mp h9
    exfalso; omega
  · have h9 := zb_0.mp h9
    refine zx_throw (names := ["java/lang/RuntimeException", "java/lang/Exception"]) rfl (by decide +kernel) (by decide +kernel) th_RX9_106_102_k ei_IllegalStateException (List.mem_of_getElem? (i := 19) rfl) th_RX9_106 th_RX9_106_o th_RX9_106_g dX9_append_12 dX9_append_15 dX9_append_16 dX9_append_18 dX9_append_21 (Nat.le_of_ble_eq_true rfl) (Nat.le_of_ble_eq_true rfl) (Nat.le_of_ble_eq_true rfl) (Nat.le_of_ble_eq_true rfl) ?_
    rw [hQ]
    exact ⟨rfl, by first | rfl | (exfalso; omega)⟩
set_option maxRecDepth 20000 in
set_option maxHeartbeats 2000000 in
theorem sX9_append {l : Launch} {w : zW} (hfl : l.stackTraces = false) {σ : zS} {x0 x1 x2 x3 x4 : Int} {L : List Int} (hz : zOK σ) (hx0 : zr x0) (hx1 : zr x1) (hx2 : zr x2) (hx3 : zr x3) (hx4 : zr x4) (hL : InC σ L) (hl : L.length ≤ 1400) (hw : L.length ≤ 1380) : Sp l w mX9_append 6 0 [zf 9 0, zi x0, zi x1, zi x2, zi x3, zi x4] σ (zqv (some (zi ((L.length + 20 : Nat) : Int))) (fun τ => zOK τ ∧ txF σ τ ∧ InC τ (((((L ++ b4 x0) ++ b4 x1) ++ b4 x2) ++ b4 x3) ++ b4 x4))) := by
  obtain ⟨Q, hQ⟩ : ∃ Q : zQ, Q = (zqv (some (zi ((L.length + 20 : Nat) : Int))) (fun τ => zOK τ ∧ txF σ τ ∧ InC τ (((((L ++ b4 x0) ++ b4 x1) ++ b4 x2) ++ b4 x3) ++ b4 x4))) := ⟨_, rfl⟩
  rw [← hQ]
  refine zx_enter hfl (by decide) rfl 0 rfl ?_
  show zX l w mX9_append (zMQ w 6 0 Q) 0 [zf 9 0, zi x0, zi x1, zi x2, zi x3, zi x4] [] 0 σ
  have hL1 := hL.1
  refine zx_aloadN dX9_append_0 rfl rfl ?_
  refine zy_getR (q' := 1) fl_RX9_12 rfl dX9_append_1 rfl ?_
  refine zx_bipush dX9_append_4 rfl ?_
  refine zy_cv [zi 20] (sX6_hasRoomFor  hfl hz (by first | exact hz _ _ | assumption | exact zr_b _ | exact zcmp_r _ _ | (unfold zr at *; omega)) (by first | assumption | omega)) dX9_append_6 (by decide) rfl cw_RX9_98 okX6_hasRoomFor rfl (Nat.le_of_ble_eq_true rfl) ⟨Nat.le_of_ble_eq_true rfl, Nat.le_of_ble_eq_true rfl, Nat.le_of_ble_eq_true rfl, Nat.le_of_ble_eq_true rfl⟩ ?_
  refine zx_if_ne (tgt := 22) (by first | exact hz _ _ | assumption | exact zr_b _ | exact zcmp_r _ _ | (unfold zr at *; omega)) dX9_append_9 (by decide) (fun h9 => ?_) (fun h9 => ?_)
  · have h9 := zb_n.mp h9
    refine zx_aloadN dX9_append_22 rfl rfl ?_
    refine zy_getR (q' := 1) fl_RX9_12 rfl dX9_append_23 rfl ?_
    refine zx_iloadN dX9_append_26 rfl rfl ?_
    refine zy_cvvR [zi x0] (sX6_addFourBytes (L := L) hfl hz (by first | exact hz _ _ | assumption | exact zr_b _ | exact zcmp_r _ _ | (unfold zr at *; omega)) hL (by omega)) dX9_append_27 (by decide) rfl cw_RX9_108 okX6_addFourBytes rfl (Nat.le_of_ble_eq_true rfl) ⟨Nat.le_of_ble_eq_true rfl, Nat.le_of_ble_eq_true rfl, Nat.le_of_ble_eq_true rfl, Nat.le_of_ble_eq_true rfl⟩ (fun τ27 hr27 => ?_)
    have hz27 : zOK τ27 := hr27.1
    refine zx_aloadN dX9_append_30 rfl rfl ?_
    refine zy_getR (q' := 1) fl_RX9_12 rfl dX9_append_31 rfl ?_
    refine zx_iloadN dX9_append_34 rfl rfl ?_
    refine zy_cvvR [zi x1] (sX6_addFourBytes (L := (L ++ b4 x0)) hfl hz27 (by first | exact hz27 _ _ | assumption | exact zr_b _ | exact zcmp_r _ _ | (unfold zr at *; omega)) hr27.2.2 (by simp only [List.length_append, b4_l]; omega)) dX9_append_35 (by decide) rfl cw_RX9_108 okX6_addFourBytes rfl (Nat.le_of_ble_eq_true rfl) ⟨Nat.le_of_ble_eq_true rfl, Nat.le_of_ble_eq_true rfl, Nat.le_of_ble_eq_true rfl, Nat.le_of_ble_eq_true rfl⟩ (fun τ35 hr35 => ?_)
    have hz35 : zOK τ35 := hr35.1
    refine zx_aloadN dX9_append_38 rfl rfl ?_
    refine zy_getR (q' := 1) fl_RX9_12 rfl dX9_append_39 rfl ?_
    refine zx_iloadN dX9_append_42 rfl rfl ?_
    refine zy_cvvR [zi x2] (sX6_addFourBytes (L := ((L ++ b4 x0) ++ b4 x1)) hfl hz35 (by first | exact hz35 _ _ | assumption | exact zr_b _ | exact zcmp_r _ _ | (unfold zr at *; omega)) hr35.2.2 (by simp only [List.length_append, b4_l]; omega)) dX9_append_43 (by decide) rfl cw_RX9_108 okX6_addFourBytes rfl (Nat.le_of_ble_eq_true rfl) ⟨Nat.le_of_ble_eq_true rfl, Nat.le_of_ble_eq_true rfl, Nat.le_of_ble_eq_true rfl, Nat.le_of_ble_eq_true rfl⟩ (fun τ43 hr43 => ?_)
    have hz43 : zOK τ43 := hr43.1
    refine zx_aloadN dX9_append_46 rfl rfl ?_
    refine zy_getR (q' := 1) fl_RX9_12 rfl dX9_append_47 rfl ?_
    refine zx_iload dX9_append_50 rfl ?_
    refine zy_cvvR [zi x3] (sX6_addFourBytes (L := (((L ++ b4 x0) ++ b4 x1) ++ b4 x2)) hfl hz43 (by first | exact hz43 _ _ | assumption | exact zr_b _ | exact zcmp_r _ _ | (unfold zr at *; omega)) hr43.2.2 (by simp only [List.length_append, b4_l]; omega)) dX9_append_52 (by decide) rfl cw_RX9_108 okX6_addFourBytes rfl (Nat.le_of_ble_eq_true rfl) ⟨Nat.le_of_ble_eq_true rfl, Nat.le_of_ble_eq_true rfl, Nat.le_of_ble_eq_true rfl, Nat.le_of_ble_eq_true rfl⟩ (fun τ52 hr52 => ?_)
    have hz52 : zOK τ52 := hr52.1
    refine zx_aloadN dX9_append_55 rfl rfl ?_
    refine zy_getR (q' := 1) fl_RX9_12 rfl dX9_append_56 rfl ?_
    refine zx_iload dX9_append_59 rfl ?_
    refine zy_cvvR [zi x4] (sX6_addFourBytes (L := ((((L ++ b4 x0) ++ b4 x1) ++ b4 x2) ++ b4 x3)) hfl hz52 (by first | exact hz52 _ _ | assumption | exact zr_b _ | exact zcmp_r _ _ | (unfold zr at *; omega)) hr52.2.2 (by simp only [List.length_append, b4_l]; omega)) dX9_append_61 (by decide) rfl cw_RX9_108 okX6_addFourBytes rfl (Nat.le_of_ble_eq_true rfl) ⟨Nat.le_of_ble_eq_true rfl, Nat.le_of_ble_eq_true rfl, Nat.le_of_ble_eq_true rfl, Nat.le_of_ble_eq_true rfl⟩ (fun τ61 hr61 => ?_)
    have hz61 : zOK τ61 := hr61.1
    have hLe := hr61.2.2.1
    refine zx_aloadN dX9_append_64 rfl rfl ?_
    refine zy_getR (q' := 1) fl_RX9_12 rfl dX9_append_65 rfl ?_
    refine zy_getI fl_RX9_111 rfl dX9_append_68 rfl ?_
    refine zx_iret rfl rfl dX9_append_71 ?_
    rw [hQ]
    refine ⟨congrArg (fun z : Int => (Sum.inl (some (zi z)) : Option zV ⊕ String)) ?_, ?_⟩
    · rw [hLe]; simp only [List.length_append, b4_l]
    exact ⟨hz61, txF_tr (txF_tr (txF_tr (txF_tr hr27.2.1 hr35.2.1) hr43.2.1) hr52.2.1) hr61.2.1, hr61.2.2⟩
  · have h9 := zb_0.mp h9
    exfalso; omega
set_option maxRecDepth 20000 in
set_option maxHeartbeats 2000000 in
theorem sX9_truncate_f1 {l : Launch} {w : zW} (hfl : l.stackTraces = false) {σ : zS} {x : Int} {L : List Int} (hz : zOK σ) (hx : zr x) (hL : InC σ L) (hl : L.length ≤ 1400) (hw : ¬ (0 ≤ x ∧ x ≤ L.length)) : Sp l w mX9_truncate 6 1 [zf 9 0, zi x] σ (zthr "java/lang/IllegalArgumentException" σ) := by
  obtain ⟨Q, hQ⟩ : ∃ Q : zQ, Q = (zthr "java/lang/IllegalArgumentException" σ) := ⟨_, rfl⟩
  rw [← hQ]
  refine zx_enter hfl (by decide) rfl 0 rfl ?_
  show zX l w mX9_truncate (zMQ w 6 1 Q) 0 [zf 9 0, zi x] [] 0 σ
  have hL1 := hL.1
  refine zx_iloadN dX9_truncate_0 rfl rfl ?_
  refine zx_if_lt (tgt := 15) (by first | exact hz _ _ | assumption | exact zr_b _ | exact zcmp_r _ _ | (unfold zr at *; omega)) dX9_truncate_1 (by decide) (fun h1 => ?_) (fun h1 => ?_)
  · refine zx_throw (names := ["java/lang/RuntimeException", "java/lang/Exception"]) rfl (by decide +kernel) (by decide +kernel) th_RX9_119_115_k ei_IllegalArgumentException (List.mem_of_getElem? (i := 20) rfl) th_RX9_119 th_RX9_119_o th_RX9_119_g dX9_truncate_15 dX9_truncate_18 dX9_truncate_19 dX9_truncate_21 dX9_truncate_24 (Nat.le_of_ble_eq_true rfl) (Nat.le_of_ble_eq_true rfl) (Nat.le_of_ble_eq_true rfl) (Nat.le_of_ble_eq_true rfl) ?_
    rw [hQ]
    exact ⟨rfl, by first | rfl | (exfalso; omega)⟩
  · refine zx_iloadN dX9_truncate_4 rfl rfl ?_
    refine zx_aloadN dX9_truncate_5 rfl rfl ?_
    refine zy_getR (q' := 1) fl_RX9_12 rfl dX9_truncate_6 rfl ?_
    refine zy_getI fl_RX9_111 rfl dX9_truncate_9 rfl ?_
    refine zx_icmp_le (tgt := 25) (by first | exact hz _ _ | assumption | exact zr_b _ | exact zcmp_r _ _ | (unfold zr at *; omega)) (by first | exact hz _ _ | assumption | exact zr_b _ | exact zcmp_r _ _ | (unfold zr at *; omega)) dX9_truncate_12 (by decide) (fun h12 => ?_) (fun h12 => ?_)
    · exfalso; omega
    · refine zx_throw (names := ["java/lang/RuntimeException", "java/lang/Exception"]) rfl (by decide +kernel) (by decide +kernel) th_RX9_119_115_k ei_IllegalArgumentException (List.mem_of_getElem? (i := 20) rfl) th_RX9_119 th_RX9_119_o th_RX9_119_g dX9_truncate_15 dX9_truncate_18 dX9_truncate_19 dX9_truncate_21 dX9_truncate_24 (Nat.le_of_ble_eq_true rfl) (Nat.le_of_ble_eq_true rfl) (Nat.le_of_ble_eq_true rfl) (Nat.le_of_ble_eq_true rfl) ?_
      rw [hQ]
      exact ⟨rfl, by first | rfl | (exfalso; omega)⟩
set_option maxRecDepth 20000 in
set_option maxHeartbeats 2000000 in
theorem sX9_truncate {l : Launch} {w : zW} (hfl : l.stackTraces = false) {σ : zS} {x : Int} {L : List Int} (hz : zOK σ) (hx : zr x) (hL : InC σ L) (hl : L.length ≤ 1400) (hw : 0 ≤ x ∧ x ≤ L.length) : Sp l w mX9_truncate 6 0 [zf 9 0, zi x] σ (zqv (some (zi x)) (fun τ => zOK τ ∧ txF σ τ ∧ InC τ (L.take x.toNat))) := by
  obtain ⟨Q, hQ⟩ : ∃ Q : zQ, Q = (zqv (some (zi x)) (fun τ => zOK τ ∧ txF σ τ ∧ InC τ (L.take x.toNat))) := ⟨_, rfl⟩
  rw [← hQ]
  refine zx_enter hfl (by decide) rfl 0 rfl ?_
  show zX l w mX9_truncate (zMQ w 6 0 Q) 0 [zf 9 0, zi x] [] 0 σ
  have hL1 := hL.1
  refine zx_iloadN dX9_truncate_0 rfl rfl ?_
  refine zx_if_lt (tgt := 15) (by first | exact hz _ _ | assumption | exact zr_b _ | exact zcmp_r _ _ | (unfold zr at *; omega)) dX9_truncate_1 (by decide) (fun h1 => ?_) (fun h1 => ?_)
  · exfalso; omega
  · refine zx_iloadN dX9_truncate_4 rfl rfl ?_
    refine zx_aloadN dX9_truncate_5 rfl rfl ?_
    refine zy_getR (q' := 1) fl_RX9_12 rfl dX9_truncate_6 rfl ?_
    refine zy_getI fl_RX9_111 rfl dX9_truncate_9 rfl ?_
    refine zx_icmp_le (tgt := 25) (by first | exact hz _ _ | assumption | exact zr_b _ | exact zcmp_r _ _ | (unfold zr at *; omega)) (by first | exact hz _ _ | assumption | exact zr_b _ | exact zcmp_r _ _ | (unfold zr at *; omega)) dX9_truncate_12 (by decide) (fun h12 => ?_) (fun h12 => ?_)
    · refine zx_aloadN dX9_truncate_25 rfl rfl ?_
      refine zy_getR (q' := 1) fl_RX9_12 rfl dX9_truncate_26 rfl ?_
      refine zx_iloadN dX9_truncate_29 rfl rfl ?_
      refine zy_cvv [zi x] (sX6_cutTo  hfl hz (by first | assumption | omega) (by first | assumption | omega)) dX9_truncate_30 (by decide) rfl cw_RX9_87 okX6_cutTo rfl (Nat.le_of_ble_eq_true rfl) ⟨Nat.le_of_ble_eq_true rfl, Nat.le_of_ble_eq_true rfl, Nat.le_of_ble_eq_true rfl, Nat.le_of_ble_eq_true rfl⟩ ?_
      refine zx_aloadN dX9_truncate_33 rfl rfl ?_
      refine zy_getR (q' := 1) fl_RX9_12 rfl dX9_truncate_34 rfl ?_
      refine zy_getI (v := x) fl_RX9_111 rfl dX9_truncate_37 (zput_s _ _ _ _) ?_
      refine zx_iret rfl rfl dX9_truncate_40 ?_
      rw [hQ]
      refine ⟨congrArg (fun z : Int => (Sum.inl (some (zi z)) : Option zV ⊕ String)) ?_, ?_⟩
      · first | exact zput_s _ _ _ _ | rfl
      have el : (L.take x.toNat).length = x.toNat := by rw [List.length_take]; omega
      exact ⟨(zOK_put hz (by unfold zr; omega)), ⟨⟨fun q hq i => by have hq2 := hq; dsimp only at hq2; exact (zput_k _ _ _ _ _ (by omega)), rfl⟩, fun i hi => (zput_i _ _ _ _ _ hi)⟩, ⟨(zput_s _ _ _ _).trans (by rw [el]; omega), fun i hi => (zput_k _ _ _ _ _ (by omega)).trans (by rw [el] at hi; rw [getD_take _ _ _ hi]; exact hL.2 i (by omega))⟩⟩
    · exfalso; omega
set_option maxRecDepth 20000 in
set_option maxHeartbeats 2000000 in
theorem sX9_setAsideUnexplained {l : Launch} {w : zW} (hfl : l.stackTraces = false) {σ : zS}  (hz : zOK σ) (hW : WF (bk σ 30)) (hP1 : 1 ≤ σ.1 31 0) (hN : HN σ) (hA : HBA σ) : Sp l w mX9_setAsideUnexplained 6 0 [zf 9 0] σ (zqv (some (zi (zs (fun c => zb (opn (bk σ 30) c)) (σ.1 42 0).toNat))) (fun τ => zOK τ ∧ zSame (fun q => (30 ≤ q ∧ q ≤ 49) ∨ (70 ≤ q ∧ q ≤ 258)) σ τ ∧ HPu σ τ ∧ HBA τ ∧ WF (bk τ 30) ∧ lEq (clB (bk σ 30)) (bk τ 30))) := by
  obtain ⟨Q, hQ⟩ : ∃ Q : zQ, Q = (zqv (some (zi (zs (fun c => zb (opn (bk σ 30) c)) (σ.1 42 0).toNat))) (fun τ => zOK τ ∧ zSame (fun q => (30 ≤ q ∧ q ≤ 49) ∨ (70 ≤ q ∧ q ≤ 258)) σ τ ∧ HPu σ τ ∧ HBA τ ∧ WF (bk τ 30) ∧ lEq (clB (bk σ 30)) (bk τ 30))) := ⟨_, rfl⟩
  rw [← hQ]
  refine zx_enter hfl (by decide) rfl 2 rfl ?_
  show zX l w mX9_setAsideUnexplained (zMQ w 6 0 Q) 0 [zf 9 0, zu, zu] [] 0 σ
  have hP : 0 ≤ σ.1 31 0 ∧ σ.1 31 0 ≤ 8 := hW.1.1
  have hM : 0 ≤ σ.1 31 7 ∧ σ.1 31 7 ≤ 8 := hW.1.2.1
  have hE : 0 ≤ σ.1 31 10 ∧ σ.1 31 10 ≤ 12 := hW.1.2.2.1
  have hK : 0 ≤ σ.1 42 0 ∧ σ.1 42 0 ≤ 40 := hW.1.2.2.2
  refine zx_aloadN dX9_setAsideUnexplained_0 rfl rfl ?_
  refine zy_cvvR [] (sX9_judgePresent  hfl hz (by first | assumption | omega)) dX9_setAsideUnexplained_1 (by decide) rfl cw_RX9_240 okX9_judgePresent rfl (Nat.le_of_ble_eq_true rfl) ⟨Nat.le_of_ble_eq_true rfl, Nat.le_of_ble_eq_true rfl, Nat.le_of_ble_eq_true rfl, Nat.le_of_ble_eq_true rfl⟩ (fun τ1 hr1 => ?_)
  have hz1 : zOK τ1 := hr1.1
  have bk1 : bk σ 30 1 0 = σ.1 31 0 := rfl
  have bk12 : bk σ 30 12 0 = σ.1 42 0 := rfl
  have jw := Jd_win hW hr1.2.2 hP1
  have jwP : (wP (bk σ 30) (Ht (bk σ 30)) : Int) < σ.1 31 0 := jw.1
  have jr := Jd_rk hr1.2.2
  have jH := hr1.2.2.2.1
  have jT := hr1.2.2.2.2.1
  have jP : τ1.1 252 5 = σ.1 31 0 := hr1.2.2.1
  have jO := hr1.2.2.2.2.2
  have j0 := jO.1 0 (by show 0 < (σ.1 31 0).toNat; omega)
  have jq : zEq (bk σ 30) (bk τ1 30) := zEq_same hr1.2.1 (by intro o ho; show ¬ (252 ≤ 30 + o ∧ 30 + o ≤ 258); omega)
  have jW := WF_eq jq hW
  have j31 : τ1.1 31 0 = σ.1 31 0 := hr1.2.1.1 31 (by dsimp only; omega) 0
  have j42 : τ1.1 42 0 = σ.1 42 0 := hr1.2.1.1 42 (by dsimp only; omega) 0
  have jb := tR_b (H := (Ht (bk σ 30))) hW jw.1
  have jy := (hW.2.1 _ jw.1).2
  have jyb : 1450 ≤ wY (bk σ 30) (Ht (bk σ 30)) ∧ wY (bk σ 30) (Ht (bk σ 30)) ≤ 1999 := by unfold wY; omega
  have jsb : 0 ≤ wS (bk σ 30) (Ht (bk σ 30)) ∧ wS (bk σ 30) (Ht (bk σ 30)) ≤ 360 := tS_b hW _
  have jw0 : 0 ≤ τ1.1 258 0 ∧ τ1.1 258 0 < 8 := by omega
  have hN1 : HN τ1 := HN_post hN hr1.2.1 (by first | omega | (dsimp only; omega))
  have hA1 : HBA τ1 := HBA_post hA hr1.2.1 (fun q hq => by first | omega | (dsimp only; omega))
  refine zx_aloadN dX9_setAsideUnexplained_4 rfl rfl ?_
  refine zy_getR (q' := 70) fl_RX9_47 rfl dX9_setAsideUnexplained_5 rfl ?_
  refine zx_aloadN dX9_setAsideUnexplained_8 rfl rfl ?_
  refine zy_getR (q' := 30) fl_RX9_33 rfl dX9_setAsideUnexplained_9 rfl ?_
  refine zy_cvvR [zf 1 30] (sX5_prepare  hfl hz1 hN1.1 (hA1 30 (Or.inr (Or.inl rfl)))) dX9_setAsideUnexplained_12 (by decide) rfl cw_RX9_143 okX5_prepare rfl (Nat.le_of_ble_eq_true rfl) ⟨Nat.le_of_ble_eq_true rfl, Nat.le_of_ble_eq_true rfl, Nat.le_of_ble_eq_true rfl, Nat.le_of_ble_eq_true rfl⟩ (fun τ12 hr12 => ?_)
  have hz12 : zOK τ12 := hr12.1
  have hp := hprep hN1 hA1 hr12.2.1 hr12.2.2.2
  have ep : ∀ q, q < 72 → ∀ i, τ12.1 q i = σ.1 q i := fun q h1 i => (hr12.2.1.1 q (by dsimp only; omega) i).trans (hr1.2.1.1 q (by dsimp only; omega) i)
  have pq : pEq (bk σ 30) (bk τ12 30) := fun o ho i => ep _ (by omega) i
  have hWp := WF_eq (pEq_z pq) hW
  have ej : ∀ q, 252 ≤ q → q ≤ 258 → ∀ i, τ12.1 q i = τ1.1 q i := fun q h1 h2 i => hr12.2.1.1 q (by have := hN1.1; dsimp only; omega) i
  have hN12 : HN τ12 := by have e1 := ep 70 (by omega) 1; have e2 := ep 70 (by omega) 2; unfold HN at *; omega
  refine zx_iconst dX9_setAsideUnexplained_15 ?_
  refine zy_istoreN [zf 9 0, zi 0, zu] dX9_setAsideUnexplained_16 rfl (Nat.le_of_ble_eq_true rfl) (Nat.le_of_ble_eq_true rfl) rfl rfl ?_
  refine zx_iconst dX9_setAsideUnexplained_17 ?_
  refine zy_istoreN [zf 9 0, zi 0, zi 0] dX9_setAsideUnexplained_18 rfl (Nat.le_of_ble_eq_true rfl) (Nat.le_of_ble_eq_true rfl) rfl rfl ?_
  have L19 : ∀ (N : Nat) (τ : zS) (c : Nat) (acc : Int), (zOK τ) → ((c : Int) ≤ σ.1 42 0) → (zSame (fun q => q = 48) τ12 τ) → (∀ i, τ.1 48 i = clP (bk σ 30) c 18 i) → (acc = zs (fun c => zb (opn (bk σ 30) c)) c) → (bbK τ 30) → (41 - c) < N → zX l w mX9_setAsideUnexplained (zMQ w 6 0 Q) 19 [zf 9 0, zi acc, zi ((c : Nat) : Int)] [] 0 τ := by
    intro N
    induction N with
    | zero => intro τ c acc _ _ _ _ _ _ _; exact absurd (by assumption) (Nat.not_lt_zero _)
    | succ N ih19 =>
      intro τ c acc hz hc h1 h2 hacc hb hN
      have eo : ∀ o, o ≤ 19 → o ≠ 18 → ∀ i, bk τ 30 o i = bk σ 30 o i := fun o ho h8 i => (h1.1 (30 + o) (by first | omega | (dsimp only; omega)) i).trans (ep _ (by omega) i)
      have c42 : τ.1 42 0 = σ.1 42 0 := eo 12 (by omega) (by omega) 0
      have c31 : τ.1 31 0 = σ.1 31 0 := eo 1 (by omega) (by omega) 0
      have hWτ : WF (bk τ 30) := WF_agree hWp (fun o i _ _ _ h => h1.1 (30 + o) (by first | omega | (dsimp only; omega)) i) (fun d hd => by
        have hd2 : (d : Int) < σ.1 42 0 := by have e : bk τ12 30 12 0 = σ.1 42 0 := pq 12 (by omega) 0; omega
        have q := hW.2.2.2.2.1 d hd2
        have q18 := h2 d
        refine ⟨by rw [eo 16 (by omega) (by omega)]; exact q.2.2.1, by rw [eo 17 (by omega) (by omega)]; exact q.2.2.2.1, ?_⟩
        show τ.1 48 d = 0 ∨ τ.1 48 d = 1
        rw [q18]; unfold clP; split
        · exact Or.inr rfl
        · exact q.2.2.2.2)
      have t253 : ∀ i, τ.1 253 i = τ1.1 253 i := fun i => (h1.1 253 (by first | omega | (dsimp only; omega)) i).trans (ej 253 (by omega) (by omega) i)
      have t255 : ∀ i, τ.1 255 i = τ1.1 255 i := fun i => (h1.1 255 (by first | omega | (dsimp only; omega)) i).trans (ej 255 (by omega) (by omega) i)
      have t258 : ∀ i, τ.1 258 i = τ1.1 258 i := fun i => (h1.1 258 (by first | omega | (dsimp only; omega)) i).trans (ej 258 (by omega) (by omega) i)
      have t252 : ∀ i, τ.1 252 i = τ1.1 252 i := fun i => (h1.1 252 (by first | omega | (dsimp only; omega)) i).trans (ej 252 (by omega) (by omega) i)
      have t252b := t252 5
      refine zx_iloadN dX9_setAsideUnexplained_19 rfl rfl ?_
      refine zx_aloadN dX9_setAsideUnexplained_20 rfl rfl ?_
      refine zy_getR (q' := 30) fl_RX9_33 rfl dX9_setAsideUnexplained_21 rfl ?_
      refine zy_getR (q' := 42) fl_RX9_125 rfl dX9_setAsideUnexplained_24 rfl ?_
      refine zy_getI fl_RX9_129 rfl dX9_setAsideUnexplained_27 rfl ?_
      refine zx_icmp_ge (tgt := 66) (by first | exact hz _ _ | assumption | exact zr_b _ | exact zcmp_r _ _ | (unfold zr at *; omega)) (by first | exact hz _ _ | assumption | exact zr_b _ | exact zcmp_r _ _ | (unfold zr at *; omega)) dX9_setAsideUnexplained_30 (by decide) (fun h30 => ?_) (fun h30 => ?_)
      · have hNt : HN τ := HN_post hN12 h1 (by first | omega | (dsimp only; omega))
        refine zx_aloadN dX9_setAsideUnexplained_66 rfl rfl ?_
        refine zy_getR (q' := 70) fl_RX9_47 rfl dX9_setAsideUnexplained_67 rfl ?_
        refine zy_cvvR [] (sX5_commit  hfl hz hNt.1 hNt.2) dX9_setAsideUnexplained_70 (by decide) rfl cw_RX9_151 okX5_commit rfl (Nat.le_of_ble_eq_true rfl) ⟨Nat.le_of_ble_eq_true rfl, Nat.le_of_ble_eq_true rfl, Nat.le_of_ble_eq_true rfl, Nat.le_of_ble_eq_true rfl⟩ (fun τ70 hr70 => ?_)
        have hz70 : zOK τ70 := hr70.1
        have ho : zSame (fun q => 30 ≤ q ∧ q ≤ 49) τ12 τ := ⟨fun q hq i => h1.1 q (by first | omega | (dsimp only at hq ⊢; omega)) i, h1.2⟩
        have hq := hpush hN1 hA1 hr12.2.1 hr12.2.2.1 hr12.2.2.2 ho hb hr70.2.1 hr70.2.2
        have ec : c = (σ.1 42 0).toNat := by omega
        have hcl : pEq (clP (bk σ 30) c) (bk τ 30) := fun o ho i => by
          by_cases e : o = 18
          · subst e; exact h2 i
          · rw [clP_k _ _ e]; exact eo o ho e i
        have hcl2 : lEq (clB (bk σ 30)) (clP (bk σ 30) c) := by rw [ec]; exact lEq_sy (clP_e hW)
        refine zx_iloadN dX9_setAsideUnexplained_73 rfl rfl ?_
        refine zx_iret rfl rfl dX9_setAsideUnexplained_74 ?_
        rw [hQ]
        refine ⟨congrArg (fun z : Int => (Sum.inl (some (zi z)) : Option zV ⊕ String)) ?_, ?_⟩
        · rw [hacc, ec]
        exact ⟨hz70, zSame_tr hr1.2.1 hq.2.2.1 (fun q hq => by first | omega | (dsimp only at hq ⊢; omega)), HPu_pre hr1.2.1 hq.1, hq.2.1, WF_eq (pEq_z hq.2.2.2) hWτ, lEq_tr hcl2 (pEq_l (pEq_tr hcl hq.2.2.2))⟩
      · refine zx_aloadN dX9_setAsideUnexplained_33 rfl rfl ?_
        refine zy_getR (q' := 252) fl_RX9_54 rfl dX9_setAsideUnexplained_34 rfl ?_
        refine zx_aloadN dX9_setAsideUnexplained_37 rfl rfl ?_
        refine zy_getR (q' := 30) fl_RX9_33 rfl dX9_setAsideUnexplained_38 rfl ?_
        refine zx_iloadN dX9_setAsideUnexplained_41 rfl rfl ?_
        refine zy_cv [zf 1 30, zi ((c : Nat) : Int)] (sX7_leavesOpen (h := (Ht (bk σ 30) c)) (u := (wP (bk σ 30) (Ht (bk σ 30)))) hfl hz hWτ (by first | assumption | omega) ((t258 0).trans jw.2.1) (by omega) (by first | assumption | omega) ((t253 c).trans (jH c (by show (c : Int) < σ.1 42 0; omega)))) dX9_setAsideUnexplained_42 (by decide) rfl cw_RX9_267 okX7_leavesOpen rfl (Nat.le_of_ble_eq_true rfl) ⟨Nat.le_of_ble_eq_true rfl, Nat.le_of_ble_eq_true rfl, Nat.le_of_ble_eq_true rfl, Nat.le_of_ble_eq_true rfl⟩ ?_
        refine zy_top (b := zb (opn (bk σ 30) c)) (by rw [t255, jw.2.2.1]; exact zb_c (by unfold opn; rw [cFit_ag (fun o ho i => eo o (by omega) (by omega) i)])) ?_
        refine zx_if_eq (tgt := 60) (by first | exact hz _ _ | assumption | exact zr_b _ | exact zcmp_r _ _ | (unfold zr at *; omega)) dX9_setAsideUnexplained_45 (by decide) (fun h45 => ?_) (fun h45 => ?_)
        · have h45 := zb_0.mp h45
          refine zy_iinc (b := ((c + 1 : Nat) : Int)) [zf 9 0, zi acc, zi ((c + 1 : Nat) : Int)] dX9_setAsideUnexplained_60 rfl (by omega) (Nat.le_of_ble_eq_true rfl) rfl rfl ?_
          refine zx_goto (tgt := 19) dX9_setAsideUnexplained_63 (by decide) ?_
          exact ih19 τ (c + 1) acc hz (by first | assumption | omega) (by first | exact h1 | exact ⟨fun q hq i => by have hq2 := hq; dsimp only at hq2; exact (zput_k _ _ _ _ _ (by omega)).trans (h1.1 q hq i), h1.2⟩) (by first | exact (fun i => (h2 i).trans (clP_fi h45 i).symm) | exact (fun i => by rw [zput_e]; exact clP_ti h45 h2 i)) (by subst hacc; first | exact zsb_t (P := opn (bk σ 30)) h45 | exact zsb_f (P := opn (bk σ 30)) h45) (by first | exact hb | exact bb_put (o := 18) (Or.inr rfl) hb) (by omega)
        · have h45 := zb_n.mp h45
          refine zx_aloadN dX9_setAsideUnexplained_48 rfl rfl ?_
          refine zy_getR (q' := 30) fl_RX9_33 rfl dX9_setAsideUnexplained_49 rfl ?_
          refine zx_iloadN dX9_setAsideUnexplained_52 rfl rfl ?_
          refine zy_cv [zi ((c : Nat) : Int)] (sX1_drop  hfl hz (by first | exact hz _ _ | assumption | exact zr_b _ | exact zcmp_r _ _ | (unfold zr at *; omega)) (by first | assumption | omega | (show 0 ≤ τ.1 42 0 ∧ τ.1 42 0 ≤ 40; omega)) (by show 0 ≤ ((c : Nat) : Int) ∧ ((c : Nat) : Int) < τ.1 42 0; omega) (fun q => q ((h2 c).trans ((clP_c _ (Nat.le_refl c) _).trans h45.1.2)))) dX9_setAsideUnexplained_53 (by decide) rfl cw_RX9_308 okX1_drop rfl (Nat.le_of_ble_eq_true rfl) ⟨Nat.le_of_ble_eq_true rfl, Nat.le_of_ble_eq_true rfl, Nat.le_of_ble_eq_true rfl, Nat.le_of_ble_eq_true rfl⟩ ?_
          refine zx_pop rfl dX9_setAsideUnexplained_56 ?_
          refine zy_iinc (b := acc + 1) [zf 9 0, zi (acc + 1), zi ((c : Nat) : Int)] dX9_setAsideUnexplained_57 rfl (by omega) (Nat.le_of_ble_eq_true rfl) rfl rfl ?_
          refine zy_iinc (b := ((c + 1 : Nat) : Int)) [zf 9 0, zi (acc + 1), zi ((c + 1 : Nat) : Int)] dX9_setAsideUnexplained_60 rfl (by omega) (Nat.le_of_ble_eq_true rfl) rfl rfl ?_
          refine zx_goto (tgt := 19) dX9_setAsideUnexplained_63 (by decide) ?_
          exact ih19 (zput τ (30 + 18) ((c : Nat) : Int).toNat 1) (c + 1) (acc + 1) (zOK_put hz (by unfold zr; omega)) (by first | assumption | omega) (by first | exact h1 | exact ⟨fun q hq i => by have hq2 := hq; dsimp only at hq2; exact (zput_k _ _ _ _ _ (by omega)).trans (h1.1 q hq i), h1.2⟩) (by first | exact (fun i => (h2 i).trans (clP_fi h45 i).symm) | exact (fun i => by rw [zput_e]; exact clP_ti h45 h2 i)) (by subst hacc; first | exact zsb_t (P := opn (bk σ 30)) h45 | exact zsb_f (P := opn (bk σ 30)) h45) (by first | exact hb | exact bb_put (o := 18) (Or.inr rfl) hb) (by omega)
  exact L19 _ τ12 0 0 hz12 (by first | assumption | omega) (zSame_rf _ _) (fun i => (ep 48 (by omega) i).trans (if_neg (fun q => absurd q.2.1 (Nat.not_lt_zero i))).symm) rfl (hp.1 30 (Or.inr (Or.inl rfl))) (Nat.lt_succ_self _)

