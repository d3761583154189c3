abbrev mX10_sees : zM := (yX10_sees, cX10_sees, 4, (some .boolean), [])
theorem okX10_sees : zMok mX10_sees 1 := ⟨by decide, by decide, by decide +kernel⟩
theorem dX10_sees_0 : decode cX10_sees 0 = .ok (.aload_n 0, 1) := by decide +kernel
theorem dX10_sees_1 : decode cX10_sees 1 = .ok (.invokevirtual 249, 3) := by decide +kernel
theorem cw_RX10_249 : zCwV RX10 249 mX10_next := zall [1530, 1532, 25, 128, 1533] (by decide +kernel) (by decide +kernel)
theorem dX10_sees_4 : decode cX10_sees 4 = .ok (.istore_n 2, 1) := by decide +kernel
theorem dX10_sees_5 : decode cX10_sees 5 = .ok (.aload_n 0, 1) := by decide +kernel
theorem dX10_sees_6 : decode cX10_sees 6 = .ok (.getfield 243, 3) := by decide +kernel
theorem dX10_sees_9 : decode cX10_sees 9 = .ok (.ifCond .ne 14, 3) := by decide +kernel
theorem dX10_sees_23 : decode cX10_sees 23 = .ok (.iconst 0, 1) := by decide +kernel
theorem dX10_sees_24 : decode cX10_sees 24 = .ok (.ireturn, 1) := by decide +kernel
theorem dX10_sees_12 : decode cX10_sees 12 = .ok (.aload_n 0, 1) := by decide +kernel
theorem dX10_sees_13 : decode cX10_sees 13 = .ok (.getfield 236, 3) := by decide +kernel
theorem dX10_sees_16 : decode cX10_sees 16 = .ok (.aload_n 1, 1) := by decide +kernel
theorem dX10_sees_17 : decode cX10_sees 17 = .ok (.invokevirtual 56, 3) := by decide +kernel
theorem cw_RX10_56 : zCwV RX10 56 mJ0_length_8abf5 := zall [1507, 419, 420, 123, 421] (by decide +kernel) (by decide +kernel)
theorem dX10_sees_20 : decode cX10_sees 20 = .ok (.if_icmp .eq 5, 3) := by decide +kernel
theorem dX10_sees_25 : decode cX10_sees 25 = .ok (.iconst 0, 1) := by decide +kernel
theorem dX10_sees_26 : decode cX10_sees 26 = .ok (.istore_n 3, 1) := by decide +kernel
theorem dX10_sees_27 : decode cX10_sees 27 = .ok (.iload_n 3, 1) := by decide +kernel
theorem dX10_sees_28 : decode cX10_sees 28 = .ok (.aload_n 0, 1) := by decide +kernel
theorem dX10_sees_29 : decode cX10_sees 29 = .ok (.getfield 236, 3) := by decide +kernel
theorem dX10_sees_32 : decode cX10_sees 32 = .ok (.if_icmp .ge 29, 3) := by decide +kernel
theorem dX10_sees_61 : decode cX10_sees 61 = .ok (.iconst 1, 1) := by decide +kernel
theorem dX10_sees_62 : decode cX10_sees 62 = .ok (.ireturn, 1) := by decide +kernel
theorem dX10_sees_35 : decode cX10_sees 35 = .ok (.aload_n 0, 1) := by decide +kernel
theorem dX10_sees_36 : decode cX10_sees 36 = .ok (.aload_n 0, 1) := by decide +kernel
theorem dX10_sees_37 : decode cX10_sees 37 = .ok (.getfield 233, 3) := by decide +kernel
theorem dX10_sees_40 : decode cX10_sees 40 = .ok (.iload_n 3, 1) := by decide +kernel
theorem dX10_sees_41 : decode cX10_sees 41 = .ok (.iadd, 1) := by decide +kernel
theorem dX10_sees_42 : decode cX10_sees 42 = .ok (.invokevirtual 230, 3) := by decide +kernel
theorem dX10_sees_45 : decode cX10_sees 45 = .ok (.aload_n 1, 1) := by decide +kernel
theorem dX10_sees_46 : decode cX10_sees 46 = .ok (.iload_n 3, 1) := by decide +kernel
theorem dX10_sees_47 : decode cX10_sees 47 = .ok (.invokevirtual 63, 3) := by decide +kernel
theorem cw_RX10_63 : zCwV RX10 63 mJ0_charAt_5068e := zall [1508, 429, 430, 123, 431] (by decide +kernel) (by decide +kernel)
theorem dX10_sees_50 : decode cX10_sees 50 = .ok (.if_icmp .eq 5, 3) := by decide +kernel
theorem dX10_sees_55 : decode cX10_sees 55 = .ok (.iinc 3 1, 3) := by decide +kernel
theorem dX10_sees_58 : decode cX10_sees 58 = .ok (.goto (-31), 3) := by decide +kernel
theorem dX10_sees_53 : decode cX10_sees 53 = .ok (.iconst 0, 1) := by decide +kernel
theorem dX10_sees_54 : decode cX10_sees 54 = .ok (.ireturn, 1) := by decide +kernel
abbrev mX10_goesPast : zM := (yX10_goesPast, cX10_goesPast, 1, none, [])
theorem okX10_goesPast : zMok mX10_goesPast 0 := ⟨by decide, by decide, by decide +kernel⟩
theorem dX10_goesPast_0 : decode cX10_goesPast 0 = .ok (.aload_n 0, 1) := by decide +kernel
theorem dX10_goesPast_1 : decode cX10_goesPast 1 = .ok (.aload_n 0, 1) := by decide +kernel
theorem dX10_goesPast_2 : decode cX10_goesPast 2 = .ok (.getfield 233, 3) := by decide +kernel
theorem dX10_goesPast_5 : decode cX10_goesPast 5 = .ok (.aload_n 0, 1) := by decide +kernel
theorem dX10_goesPast_6 : decode cX10_goesPast 6 = .ok (.getfield 236, 3) := by decide +kernel
theorem dX10_goesPast_9 : decode cX10_goesPast 9 = .ok (.iadd, 1) := by decide +kernel
theorem dX10_goesPast_10 : decode cX10_goesPast 10 = .ok (.putfield 227, 3) := by decide +kernel
theorem dX10_goesPast_13 : decode cX10_goesPast 13 = .ok (.return_, 1) := by decide +kernel
abbrev mX10_semicolon : zM := (yX10_semicolon, cX10_semicolon, 1, none, [])
theorem okX10_semicolon : zMok mX10_semicolon 0 := ⟨by decide, by decide, by decide +kernel⟩
theorem dX10_semicolon_0 : decode cX10_semicolon 0 = .ok (.aload_n 0, 1) := by decide +kernel
theorem dX10_semicolon_1 : decode cX10_semicolon 1 = .ok (.getfield 243, 3) := by decide +kernel
theorem dX10_semicolon_4 : decode cX10_semicolon 4 = .ok (.ifCond .eq 4, 3) := by decide +kernel
theorem dX10_semicolon_8 : decode cX10_semicolon 8 = .ok (.aload_n 0, 1) := by decide +kernel
theorem dX10_semicolon_9 : decode cX10_semicolon 9 = .ok (.aload_n 0, 1) := by decide +kernel
theorem dX10_semicolon_10 : decode cX10_semicolon 10 = .ok (.invokevirtual 249, 3) := by decide +kernel
theorem dX10_semicolon_13 : decode cX10_semicolon 13 = .ok (.bipush 59, 2) := by decide +kernel
theorem dX10_semicolon_15 : decode cX10_semicolon 15 = .ok (.if_icmp .ne 7, 3) := by decide +kernel
theorem dX10_semicolon_22 : decode cX10_semicolon 22 = .ok (.iconst 0, 1) := by decide +kernel
theorem dX10_semicolon_23 : decode cX10_semicolon 23 = .ok (.iconst 1, 1) := by decide +kernel
theorem dX10_semicolon_24 : decode cX10_semicolon 24 = .ok (.invokevirtual 252, 3) := by decide +kernel
theorem cw_RX10_252 : zCwV RX10 252 mX10_must := zall [1551, 1553, 29, 128, 1554] (by decide +kernel) (by decide +kernel)
theorem dX10_semicolon_27 : decode cX10_semicolon 27 = .ok (.aload_n 0, 1) := by decide +kernel
theorem dX10_semicolon_28 : decode cX10_semicolon 28 = .ok (.dup, 1) := by decide +kernel
theorem dX10_semicolon_29 : decode cX10_semicolon 29 = .ok (.getfield 227, 3) := by decide +kernel
theorem dX10_semicolon_32 : decode cX10_semicolon 32 = .ok (.iconst 1, 1) := by decide +kernel
theorem dX10_semicolon_33 : decode cX10_semicolon 33 = .ok (.iadd, 1) := by decide +kernel
theorem dX10_semicolon_34 : decode cX10_semicolon 34 = .ok (.putfield 227, 3) := by decide +kernel
theorem dX10_semicolon_37 : decode cX10_semicolon 37 = .ok (.return_, 1) := by decide +kernel
theorem dX10_semicolon_18 : decode cX10_semicolon 18 = .ok (.iconst 1, 1) := by decide +kernel
theorem dX10_semicolon_19 : decode cX10_semicolon 19 = .ok (.goto 4, 3) := by decide +kernel
theorem dX10_semicolon_7 : decode cX10_semicolon 7 = .ok (.return_, 1) := by decide +kernel
abbrev mX10_number : zM := (yX10_number, cX10_number, 4, (some .int), [])
theorem okX10_number : zMok mX10_number 2 := ⟨by decide, by decide, by decide +kernel⟩
theorem dX10_number_0 : decode cX10_number 0 = .ok (.aload_n 0, 1) := by decide +kernel
theorem dX10_number_1 : decode cX10_number 1 = .ok (.getfield 243, 3) := by decide +kernel
theorem dX10_number_4 : decode cX10_number 4 = .ok (.ifCond .eq 5, 3) := by decide +kernel
theorem dX10_number_9 : decode cX10_number 9 = .ok (.aload_n 0, 1) := by decide +kernel
theorem dX10_number_10 : decode cX10_number 10 = .ok (.aload_n 0, 1) := by decide +kernel
theorem dX10_number_11 : decode cX10_number 11 = .ok (.invokevirtual 249, 3) := by decide +kernel
theorem dX10_number_14 : decode cX10_number 14 = .ok (.i2l, 1) := by decide +kernel
theorem dX10_number_15 : decode cX10_number 15 = .ok (.ldc2_w 256, 3) := by decide +kernel
theorem lk_RX10_256 : Cond.constantLong RX10 256 (Int64.ofInt 48) ∈ zgood := zmem1 1584 (by decide +kernel) rfl
theorem dX10_number_18 : decode cX10_number 18 = .ok (.ldc2_w 258, 3) := by decide +kernel
theorem lk_RX10_258 : Cond.constantLong RX10 258 (Int64.ofInt 57) ∈ zgood := zmem1 1585 (by decide +kernel) rfl
theorem dX10_number_21 : decode cX10_number 21 = .ok (.invokestatic 74, 3) := by decide +kernel
theorem dX10_number_24 : decode cX10_number 24 = .ok (.iconst 1, 1) := by decide +kernel
theorem dX10_number_25 : decode cX10_number 25 = .ok (.invokevirtual 252, 3) := by decide +kernel
theorem dX10_number_28 : decode cX10_number 28 = .ok (.iconst 0, 1) := by decide +kernel
theorem dX10_number_29 : decode cX10_number 29 = .ok (.istore_n 3, 1) := by decide +kernel
theorem dX10_number_30 : decode cX10_number 30 = .ok (.aload_n 0, 1) := by decide +kernel
theorem dX10_number_31 : decode cX10_number 31 = .ok (.aload_n 0, 1) := by decide +kernel
theorem dX10_number_32 : decode cX10_number 32 = .ok (.getfield 227, 3) := by decide +kernel
theorem dX10_number_35 : decode cX10_number 35 = .ok (.invokevirtual 230, 3) := by decide +kernel
theorem dX10_number_38 : decode cX10_number 38 = .ok (.i2l, 1) := by decide +kernel
theorem dX10_number_39 : decode cX10_number 39 = .ok (.ldc2_w 256, 3) := by decide +kernel
theorem dX10_number_42 : decode cX10_number 42 = .ok (.ldc2_w 258, 3) := by decide +kernel
theorem dX10_number_45 : decode cX10_number 45 = .ok (.invokestatic 74, 3) := by decide +kernel
theorem dX10_number_48 : decode cX10_number 48 = .ok (.ifCond .eq 50, 3) := by decide +kernel
theorem dX10_number_98 : decode cX10_number 98 = .ok (.aload_n 0, 1) := by decide +kernel
theorem dX10_number_99 : decode cX10_number 99 = .ok (.aload_n 0, 1) := by decide +kernel
theorem dX10_number_100 : decode cX10_number 100 = .ok (.getfield 227, 3) := by decide +kernel
theorem dX10_number_103 : decode cX10_number 103 = .ok (.aload_n 0, 1) := by decide +kernel
theorem dX10_number_104 : decode cX10_number 104 = .ok (.getfield 233, 3) := by decide +kernel
theorem dX10_number_107 : decode cX10_number 107 = .ok (.isub, 1) := by decide +kernel
theorem dX10_number_108 : decode cX10_number 108 = .ok (.iconst 4, 1) := by decide +kernel
theorem dX10_number_109 : decode cX10_number 109 = .ok (.if_icmp .gt 7, 3) := by decide +kernel
theorem dX10_number_116 : decode cX10_number 116 = .ok (.iconst 0, 1) := by decide +kernel
theorem dX10_number_117 : decode cX10_number 117 = .ok (.iconst 1, 1) := by decide +kernel
theorem dX10_number_118 : decode cX10_number 118 = .ok (.invokevirtual 252, 3) := by decide +kernel
theorem dX10_number_121 : decode cX10_number 121 = .ok (.aload_n 0, 1) := by decide +kernel
theorem dX10_number_122 : decode cX10_number 122 = .ok (.iload_n 3, 1) := by decide +kernel
theorem dX10_number_123 : decode cX10_number 123 = .ok (.i2l, 1) := by decide +kernel
theorem dX10_number_124 : decode cX10_number 124 = .ok (.iload_n 1, 1) := by decide +kernel
theorem dX10_number_125 : decode cX10_number 125 = .ok (.i2l, 1) := by decide +kernel
theorem dX10_number_126 : decode cX10_number 126 = .ok (.iload_n 2, 1) := by decide +kernel
theorem dX10_number_127 : decode cX10_number 127 = .ok (.i2l, 1) := by decide +kernel
theorem dX10_number_128 : decode cX10_number 128 = .ok (.invokestatic 74, 3) := by decide +kernel
theorem dX10_number_131 : decode cX10_number 131 = .ok (.iconst 2, 1) := by decide +kernel
theorem dX10_number_132 : decode cX10_number 132 = .ok (.invokevirtual 252, 3) := by decide +kernel
theorem dX10_number_135 : decode cX10_number 135 = .ok (.aload_n 0, 1) := by decide +kernel
theorem dX10_number_136 : decode cX10_number 136 = .ok (.getfield 243, 3) := by decide +kernel
theorem dX10_number_139 : decode cX10_number 139 = .ok (.ifCond .ne 7, 3) := by decide +kernel
theorem dX10_number_146 : decode cX10_number 146 = .ok (.iload_n 1, 1) := by decide +kernel
theorem dX10_number_147 : decode cX10_number 147 = .ok (.ireturn, 1) := by decide +kernel
theorem dX10_number_142 : decode cX10_number 142 = .ok (.iload_n 3, 1) := by decide +kernel
theorem dX10_number_143 : decode cX10_number 143 = .ok (.goto 4, 3) := by decide +kernel
theorem dX10_number_112 : decode cX10_number 112 = .ok (.iconst 1, 1) := by decide +kernel
theorem dX10_number_113 : decode cX10_number 113 = .ok (.goto 4, 3) := by decide +kernel
theorem dX10_number_51 : decode cX10_number 51 = .ok (.aload_n 0, 1) := by decide +kernel
theorem dX10_number_52 : decode cX10_number 52 = .ok (.getfield 227, 3) := by decide +kernel
theorem dX10_number_55 : decode cX10_number 55 = .ok (.aload_n 0, 1) := by decide +kernel
theorem dX10_number_56 : decode cX10_number 56 = .ok (.getfield 233, 3) := by decide +kernel
theorem dX10_number_59 : decode cX10_number 59 = .ok (.isub, 1) := by decide +kernel
theorem dX10_number_60 : decode cX10_number 60 = .ok (.iconst 4, 1) := by decide +kernel
theorem dX10_number_61 : decode cX10_number 61 = .ok (.if_icmp .ge 22, 3) := by decide +kernel
theorem dX10_number_83 : decode cX10_number 83 = .ok (.iload_n 3, 1) := by decide +kernel
theorem dX10_number_84 : decode cX10_number 84 = .ok (.istore_n 3, 1) := by decide +kernel
theorem dX10_number_85 : decode cX10_number 85 = .ok (.aload_n 0, 1) := by decide +kernel
theorem dX10_number_86 : decode cX10_number 86 = .ok (.dup, 1) := by decide +kernel
theorem dX10_number_87 : decode cX10_number 87 = .ok (.getfield 227, 3) := by decide +kernel
theorem dX10_number_90 : decode cX10_number 90 = .ok (.iconst 1, 1) := by decide +kernel
theorem dX10_number_91 : decode cX10_number 91 = .ok (.iadd, 1) := by decide +kernel
theorem dX10_number_92 : decode cX10_number 92 = .ok (.putfield 227, 3) := by decide +kernel
theorem dX10_number_95 : decode cX10_number 95 = .ok (.goto (-65), 3) := by decide +kernel
theorem dX10_number_64 : decode cX10_number 64 = .ok (.bipush 10, 2) := by decide +kernel
theorem dX10_number_66 : decode cX10_number 66 = .ok (.iload_n 3, 1) := by decide +kernel
theorem dX10_number_67 : decode cX10_number 67 = .ok (.imul, 1) := by decide +kernel
theorem dX10_number_68 : decode cX10_number 68 = .ok (.aload_n 0, 1) := by decide +kernel
theorem dX10_number_69 : decode cX10_number 69 = .ok (.aload_n 0, 1) := by decide +kernel
theorem dX10_number_70 : decode cX10_number 70 = .ok (.getfield 227, 3) := by decide +kernel
theorem dX10_number_73 : decode cX10_number 73 = .ok (.invokevirtual 230, 3) := by decide +kernel
theorem dX10_number_76 : decode cX10_number 76 = .ok (.iadd, 1) := by decide +kernel
theorem dX10_number_77 : decode cX10_number 77 = .ok (.bipush 48, 2) := by decide +kernel
theorem dX10_number_79 : decode cX10_number 79 = .ok (.isub, 1) := by decide +kernel
theorem dX10_number_80 : decode cX10_number 80 = .ok (.goto 4, 3) := by decide +kernel
theorem dX10_number_7 : decode cX10_number 7 = .ok (.iload_n 1, 1) := by decide +kernel
theorem dX10_number_8 : decode cX10_number 8 = .ok (.ireturn, 1) := by decide +kernel
abbrev mX10_isName : zM := (yX10_isName, cX10_isName, 2, (some .boolean), [])
theorem okX10_isName : zMok mX10_isName 0 := ⟨by decide, by decide, by decide +kernel⟩
theorem dX10_isName_0 : decode cX10_isName 0 = .ok (.aload_n 0, 1) := by decide +kernel
theorem dX10_isName_1 : decode cX10_isName 1 = .ok (.getfield 243, 3) := by decide +kernel
theorem dX10_isName_4 : decode cX10_isName 4 = .ok (.ifCond .eq 5, 3) := by decide +kernel
theorem dX10_isName_9 : decode cX10_isName 9 = .ok (.aload_n 0, 1) := by decide +kernel
theorem dX10_isName_10 : decode cX10_isName 10 = .ok (.invokevirtual 249, 3) := by decide +kernel
theorem dX10_isName_13 : decode cX10_isName 13 = .ok (.istore_n 1, 1) := by decide +kernel
theorem dX10_isName_14 : decode cX10_isName 14 = .ok (.aload_n 0, 1) := by decide +kernel
theorem dX10_isName_15 : decode cX10_isName 15 = .ok (.aload_n 0, 1) := by decide +kernel
theorem dX10_isName_16 : decode cX10_isName 16 = .ok (.getfield 236, 3) := by decide +kernel
theorem dX10_isName_19 : decode cX10_isName 19 = .ok (.i2l, 1) := by decide +kernel
theorem dX10_isName_20 : decode cX10_isName 20 = .ok (.lconst 1, 1) := by decide +kernel
theorem dX10_isName_21 : decode cX10_isName 21 = .ok (.ldc2_w 260, 3) := by decide +kernel
theorem lk_RX10_260 : Cond.constantLong RX10 260 (Int64.ofInt 6) ∈ zgood := zmem1 1567 (by decide +kernel) rfl
theorem dX10_isName_24 : decode cX10_isName 24 = .ok (.invokestatic 74, 3) := by decide +kernel
theorem dX10_isName_27 : decode cX10_isName 27 = .ok (.iconst 1, 1) := by decide +kernel
theorem dX10_isName_28 : decode cX10_isName 28 = .ok (.invokevirtual 252, 3) := by decide +kernel
theorem dX10_isName_31 : decode cX10_isName 31 = .ok (.aload_n 0, 1) := by decide +kernel
theorem dX10_isName_32 : decode cX10_isName 32 = .ok (.getfield 243, 3) := by decide +kernel
theorem dX10_isName_35 : decode cX10_isName 35 = .ok (.ifCond .ne 7, 3) := by decide +kernel
theorem dX10_isName_42 : decode cX10_isName 42 = .ok (.iconst 0, 1) := by decide +kernel
theorem dX10_isName_43 : decode cX10_isName 43 = .ok (.ireturn, 1) := by decide +kernel
theorem dX10_isName_38 : decode cX10_isName 38 = .ok (.iconst 1, 1) := by decide +kernel
theorem dX10_isName_39 : decode cX10_isName 39 = .ok (.goto 4, 3) := by decide +kernel
theorem dX10_isName_7 : decode cX10_isName 7 = .ok (.iconst 0, 1) := by decide +kernel
theorem dX10_isName_8 : decode cX10_isName 8 = .ok (.ireturn, 1) := by decide +kernel
/-! what the model's reader does -/
theorem PM_mv {t : Nat → Int} {n : Nat} {S S' : zP} {σ : zS} {v : Int} (h : PM t n S σ) (hv : 0 ≤ v ∧ v ≤ 1401) (h1 : S'.1 ≤ n) (h2 : S'.2 = S.2) (h3 : S.2.1 = 0 → v ≤ n ∧ xS t n v.toNat = xS t n S'.1) : PM t n S' (zput σ 261 17 v) := by
  obtain ⟨p1, p2, p3, p4, p5, p6⟩ := h
  have e : ∀ i, i ≠ 17 → (zput σ 261 17 v).1 261 i = σ.1 261 i := fun i hi => zput_i _ _ _ _ _ hi
  have e17 : (zput σ 261 17 v).1 261 17 = v := zput_s _ _ _ _
  refine ⟨TM_e (fun i => zput_k _ _ _ _ _ (by decide)) p1, ⟨(e 16 (by decide)).trans p2.1, p2.2⟩, h1, ?_, ?_, fun z => ?_⟩
  · rw [e 20 (by decide), e 21 (by decide), h2]; exact p4
  · rw [e17, e 18 (by decide), e 19 (by decide)]; exact ⟨hv, p5.2⟩
  · rw [h2] at z
    rw [e17, h2]
    exact ⟨(p6 z).1, h3 z⟩
theorem PM_fin {t : Nat → Int} {n : Nat} {S S' : zP} {σ τ υ : zS} {p : Nat} (h : PN t n S σ) (m : MX σ υ) (e17 : υ.1 261 17 = (p : Int)) (hp : p ≤ 1401) (e18 : υ.1 261 18 = σ.1 261 18) (e19 : υ.1 261 19 = σ.1 261 19) (h1 : S'.1 ≤ n) (e20 : υ.1 261 20 = S'.2.1) (e21 : υ.1 261 21 = S'.2.2) (snd : S'.2.1 = 0 → S'.2.2 = -1 ∧ p ≤ n ∧ xS t n p = xS t n S'.1) : PM t n S' υ := by
  obtain ⟨⟨p1, p2, p3, p4, p5, p6⟩, p7⟩ := h
  refine ⟨TM_e (MX_t m) p1, ⟨(MX_c m (by decide)).trans p2.1, p2.2⟩, h1, ⟨e20, e21⟩, ?_, fun z => ?_⟩
  · rw [e17, e18, e19]; exact ⟨by omega, p5.2⟩
  · rw [e17, Int.toNat_natCast]
    obtain ⟨a, b, c⟩ := snd z
    exact ⟨a, by omega, c⟩
theorem numF {t : Nat → Int} {n p : Nat} {S : zP} {v lo hi c1 d1 c2 d2 c3 d3 : Int} {A1 A2 A3 : Prop} (h0 : S.2.1 = 0) (h1 : S.2.2 = -1)
    (a1 : A1 ↔ xK t n S.1 = 2) (hp : xK t n S.1 = 2 → p = xE t n S.1) (hp' : ¬ xK t n S.1 = 2 → p = xS t n S.1) (hv : xK t n S.1 = 2 → xE t n S.1 - xS t n S.1 ≤ 4 → v = pV t n S.1)
    (a2 : A2 ↔ p - xS t n S.1 ≤ 4) (a3 : A3 ↔ lo ≤ v ∧ v ≤ hi)
    (r1 : A1 → c1 = 0 ∧ d1 = -1) (r1' : ¬ A1 → c1 = 1 ∧ d1 = xS t n S.1) (r2 : A2 ∨ ¬ c1 = 0 → c2 = c1 ∧ d2 = d1) (r2' : ¬ A2 → c1 = 0 → c2 = 1 ∧ d2 = xS t n S.1) (r3 : A3 ∨ ¬ c2 = 0 → c3 = c2 ∧ d3 = d2) (r3' : ¬ A3 → c2 = 0 → c3 = 2 ∧ d3 = xS t n S.1) :
    c3 = (pNum t n S lo hi).2.1 ∧ d3 = (pNum t n S lo hi).2.2 ∧ ((pNum t n S lo hi).2.1 = 0 → v = pV t n S.1 ∧ p = xE t n S.1 ∧ (pNum t n S lo hi).1 = xE t n S.1 ∧ (pNum t n S lo hi).2.2 = -1) := by
  by_cases k : xK t n S.1 = 2 ∧ xE t n S.1 - xS t n S.1 ≤ 4
  · have e := hp k.1
    have ev := hv k.1 k.2
    obtain ⟨x1, y1⟩ := r1 (a1.mpr k.1)
    obtain ⟨x2, y2⟩ := r2 (Or.inl (a2.mpr (by omega)))
    by_cases g : lo ≤ pV t n S.1 ∧ pV t n S.1 ≤ hi
    · rw [pNum_3 ⟨h0, k⟩ g]
      obtain ⟨x3, y3⟩ := r3 (Or.inl (a3.mpr (by omega)))
      exact ⟨by show c3 = S.2.1; omega, by show d3 = S.2.2; omega, fun _ => ⟨ev, e, rfl, h1⟩⟩
    · rw [pNum_2 ⟨h0, k⟩ g]
      obtain ⟨x3, y3⟩ := r3' (fun q => g (by have := a3.mp q; omega)) (by omega)
      rw [pF_0 h0]
      exact ⟨x3, y3, fun q => absurd (show (2 : Int) = 0 from q) (by decide)⟩
  · rw [pNum_1 (fun q => k q.2), pF_0 h0]
    have key : c3 = 1 ∧ d3 = xS t n S.1 := by
      by_cases k2 : xK t n S.1 = 2
      · obtain ⟨x1, y1⟩ := r1 (a1.mpr k2)
        have e := hp k2
        obtain ⟨x2, y2⟩ := r2' (fun q => k ⟨k2, by have := a2.mp q; omega⟩) x1
        obtain ⟨x3, y3⟩ := r3 (Or.inr (by omega))
        omega
      · obtain ⟨x1, y1⟩ := r1' (fun q => k2 (a1.mp q))
        obtain ⟨x2, y2⟩ := r2 (Or.inr (by omega))
        obtain ⟨x3, y3⟩ := r3 (Or.inr (by omega))
        omega
    exact ⟨key.1, key.2, fun q => absurd (show (1 : Int) = 0 from q) (by decide)⟩
theorem nmv_x {t : Nat → Int} {n : Nat} {S : zP} (h0 : S.2.1 = 0) (hp : S.1 ≤ n) : (¬ nmv t n S = 0) ↔ (1 ≤ xW t n S.1 ∧ xW t n S.1 ≤ 6) := by
  by_cases k : xK t n S.1 = 1
  · have e := xW_1 k
    have w1 := xW_p hp k
    by_cases l : xE t n S.1 - xS t n S.1 ≤ 6
    · have : nmv t n S = pkF (fun i => t (xS t n S.1 + i)) (xE t n S.1 - xS t n S.1) := if_pos ⟨h0, k, l⟩
      have hpos := pkF_p (f := fun i => t (xS t n S.1 + i)) (n := xE t n S.1 - xS t n S.1) (by omega) l (fun i hi => ((tok_w k).2 (xS t n S.1 + i) (by omega) (by omega)).2)
      rw [this]
      exact ⟨fun _ => by omega, fun _ => by omega⟩
    · have : nmv t n S = 0 := if_neg (fun q => l q.2.2)
      exact ⟨fun q => absurd this q, fun q => by omega⟩
  · have w0 := xW_0 k
    exact ⟨fun q => absurd (nmv_0 (fun z => k z.2)) q, fun q => by omega⟩

set_option maxRecDepth 20000 in
set_option maxHeartbeats 2000000 in
theorem sX10_sees {l : Launch} {w : zW} (hfl : l.stackTraces = false) {σ : zS} {t : Nat → Int} {n : Nat} {S : zP} {j : Nat} (hz : zOK σ) (hP : PM t n S σ) (hj1 : 1 ≤ zslen.getD j 0) : Sp l w mX10_sees 4 0 [zf 10 261, zf 100 j] σ (zqv (some (zi (zb (S.2.1 = 0 ∧ isW t n S.1 j)))) (fun τ => zOK τ ∧ MX σ τ ∧ PN t n S τ)) := by
  obtain ⟨Q, hQ⟩ : ∃ Q : zQ, Q = (zqv (some (zi (zb (S.2.1 = 0 ∧ isW t n S.1 j)))) (fun τ => zOK τ ∧ MX σ τ ∧ PN t n S τ)) := ⟨_, rfl⟩
  rw [← hQ]
  refine zx_enter hfl (by decide) rfl 2 rfl ?_
  show zX l w mX10_sees (zMQ w 4 0 Q) 0 [zf 10 261, zf 100 j, zu, zu] [] 0 σ
  have hzl := zsl_lt j
  have hpp := hP.2.2.1
  refine zx_aloadN dX10_sees_0 rfl rfl ?_
  refine zy_cvR [] (sX10_next  hfl hz (by first | assumption | omega)) dX10_sees_1 (by decide) rfl cw_RX10_249 okX10_next rfl (Nat.le_of_ble_eq_true rfl) ⟨Nat.le_of_ble_eq_true rfl, Nat.le_of_ble_eq_true rfl, Nat.le_of_ble_eq_true rfl, Nat.le_of_ble_eq_true rfl⟩ (fun τ1 hr1 => ?_)
  have hz1 : zOK τ1 := hr1.1
  have hN1 : PN t n S τ1 := hr1.2.2
  have hT1 := hN1.1.1
  have hn1 := hN1.1.2.1
  refine zy_istoreN [zf 10 261, zf 100 j, zi (uM σ n (xS t n (σ.1 261 17).toNat)), zu] dX10_sees_4 rfl (Nat.le_of_ble_eq_true rfl) (Nat.le_of_ble_eq_true rfl) rfl rfl ?_
  refine zx_aloadN dX10_sees_5 rfl rfl ?_
  refine zy_getI fl_RX10_243 rfl dX10_sees_6 rfl ?_
  refine zx_if_ne (tgt := 23) (by first | exact hz1 _ _ | assumption | exact zr_b _ | exact zcmp_r _ _ | exact uM_z (by assumption) _ _ | (unfold zr at *; omega)) dX10_sees_9 (by decide) (fun h9 => ?_) (fun h9 => ?_)
  · refine zx_iconst dX10_sees_23 ?_
    refine zx_iret rfl rfl dX10_sees_24 ?_
    rw [hQ]
    refine ⟨congrArg (fun z : Int => (Sum.inl (some (zi z)) : Option zV ⊕ String)) ?_, ?_⟩
    · first
      | exact (zb_f (fun q => h9 (hN1.1.2.2.2.1.1.trans q.1))).symm
      | exact (zb_f (fun q => h20 (by have a := q.2.1; have b := q.2.2.1; have := xw1 a; omega))).symm
      | exact (zb_f (fun q => h50 (by have := q.2.2.2 i (by omega); omega))).symm
      | exact (zb_t (⟨z, by
          have hk : xK t n S.1 = 1 := (xW_k hpp).mp (by omega)
          have := xw1 hk
          exact ⟨hk, by omega, fun k hk2 => hj k (by omega)⟩⟩ : S.2.1 = 0 ∧ isW t n S.1 j)).symm
    exact ⟨hz1, hr1.2.1, hN1⟩
  · have z : S.2.1 = 0 := hN1.1.2.2.2.1.1.symm.trans h9
    obtain ⟨w17, w18, w19⟩ := hN1.2 z
    have hwb := hN1.1.2.2.2.2.1
    have xw1 := @xW_1 t n S.1
    have hxn : xS t n S.1 + xW t n S.1 ≤ n := by
      have a := rnE_le (isWd t) n (xS t n S.1)
      have b := xS_le (t := t) hpp
      unfold xW; omega
    refine zx_aloadN dX10_sees_12 rfl rfl ?_
    refine zy_getI fl_RX10_236 rfl dX10_sees_13 rfl ?_
    refine zy_top (b := ((xW t n S.1 : Nat) : Int)) (w19) ?_
    refine zx_aloadN dX10_sees_16 rfl rfl ?_
    refine zy_str [] (sJ0_length_8abf5  hfl hz1 ) dX10_sees_17 rfl cw_RX10_56 okJ0_length_8abf5 rfl (Nat.le_of_ble_eq_true rfl) ⟨Nat.le_of_ble_eq_true rfl, Nat.le_of_ble_eq_true rfl, Nat.le_of_ble_eq_true rfl, Nat.le_of_ble_eq_true rfl⟩ ?_
    refine zx_icmp_eq (tgt := 25) (by first | exact hz1 _ _ | assumption | exact zr_b _ | exact zcmp_r _ _ | exact uM_z (by assumption) _ _ | (unfold zr at *; omega)) (by first | exact hz1 _ _ | assumption | exact zr_b _ | exact zcmp_r _ _ | exact uM_z (by assumption) _ _ | (unfold zr at *; omega)) dX10_sees_20 (by decide) (fun h20 => ?_) (fun h20 => ?_)
    · refine zx_iconst dX10_sees_25 ?_
      refine zy_istoreN [zf 10 261, zf 100 j, zi (uM σ n (xS t n (σ.1 261 17).toNat)), zi 0] dX10_sees_26 rfl (Nat.le_of_ble_eq_true rfl) (Nat.le_of_ble_eq_true rfl) rfl rfl ?_
      have L27 : ∀ (N : Nat) (i : Nat), (i ≤ zslen.getD j 0) → (∀ k, k < i → t (xS t n S.1 + k) = ((zsbyt.getD j []).getD k 0).toInt) → (1002 - i) < N → zX l w mX10_sees (zMQ w 4 0 Q) 27 [zf 10 261, zf 100 j, zu, zi ((i : Nat) : Int)] [] 0 τ1 := by
        intro N
        induction N with
        | zero => intro i _ _ _; exact absurd (by assumption) (Nat.not_lt_zero _)
        | succ N ih27 =>
          intro i hi hj hN
          refine zx_iloadN dX10_sees_27 rfl rfl ?_
          refine zx_aloadN dX10_sees_28 rfl rfl ?_
          refine zy_getI fl_RX10_236 rfl dX10_sees_29 rfl ?_
          refine zy_top (b := ((xW t n S.1 : Nat) : Int)) (w19) ?_
          refine zx_icmp_ge (tgt := 61) (by first | exact hz1 _ _ | assumption | exact zr_b _ | exact zcmp_r _ _ | exact uM_z (by assumption) _ _ | (unfold zr at *; omega)) (by first | exact hz1 _ _ | assumption | exact zr_b _ | exact zcmp_r _ _ | exact uM_z (by assumption) _ _ | (unfold zr at *; omega)) dX10_sees_32 (by decide) (fun h32 => ?_) (fun h32 => ?_)
          · refine zx_iconst dX10_sees_61 ?_
            refine zx_iret rfl rfl dX10_sees_62 ?_
            rw [hQ]
            refine ⟨congrArg (fun z : Int => (Sum.inl (some (zi z)) : Option zV ⊕ String)) ?_, ?_⟩
            · first
              | exact (zb_f (fun q => h9 (hN1.1.2.2.2.1.1.trans q.1))).symm
              | exact (zb_f (fun q => h20 (by have a := q.2.1; have b := q.2.2.1; have := xw1 a; omega))).symm
              | exact (zb_f (fun q => h50 (by have := q.2.2.2 i (by omega); omega))).symm
              | exact (zb_t (⟨z, by
                  have hk : xK t n S.1 = 1 := (xW_k hpp).mp (by omega)
                  have := xw1 hk
                  exact ⟨hk, by omega, fun k hk2 => hj k (by omega)⟩⟩ : S.2.1 = 0 ∧ isW t n S.1 j)).symm
            exact ⟨hz1, hr1.2.1, hN1⟩
          · refine zx_aloadN dX10_sees_35 rfl rfl ?_
            refine zx_aloadN dX10_sees_36 rfl rfl ?_
            refine zy_getI fl_RX10_233 rfl dX10_sees_37 rfl ?_
            refine zy_top (b := ((xS t n S.1 : Nat) : Int)) (w18) ?_
            refine zx_iloadN dX10_sees_40 rfl rfl ?_
            refine zx_iadd dX10_sees_41 ?_
            refine zy_top (b := ((xS t n S.1 + i : Nat) : Int)) (by omega) ?_
            refine zy_cv [zi ((xS t n S.1 + i : Nat) : Int)] (sX10_byteAt (n := n) (k := (xS t n S.1 + i)) hfl hz1 hn1 (by omega)) dX10_sees_42 (by decide) rfl cw_RX10_230 okX10_byteAt rfl (Nat.le_of_ble_eq_true rfl) ⟨Nat.le_of_ble_eq_true rfl, Nat.le_of_ble_eq_true rfl, Nat.le_of_ble_eq_true rfl, Nat.le_of_ble_eq_true rfl⟩ ?_
            refine zx_aloadN dX10_sees_45 rfl rfl ?_
            refine zx_iloadN dX10_sees_46 rfl rfl ?_
            refine zy_str [zi ((i : Nat) : Int)] (sJ0_charAt_5068e  hfl hz1 (by first | assumption | omega)) dX10_sees_47 rfl cw_RX10_63 okJ0_charAt_5068e rfl (Nat.le_of_ble_eq_true rfl) ⟨Nat.le_of_ble_eq_true rfl, Nat.le_of_ble_eq_true rfl, Nat.le_of_ble_eq_true rfl, Nat.le_of_ble_eq_true rfl⟩ ?_
            refine zy_top (b := ((zsbyt.getD j []).getD i 0).toInt) rfl ?_
            have hz2 := zch_lt j i
            have hum := uM_c hT1 (xS t n S.1 + i)
            refine zx_icmp_eq (tgt := 55) (by first | exact hz1 _ _ | assumption | exact zr_b _ | exact zcmp_r _ _ | exact uM_z (by assumption) _ _ | (unfold zr at *; omega)) (by first | exact hz1 _ _ | assumption | exact zr_b _ | exact zcmp_r _ _ | exact uM_z (by assumption) _ _ | (unfold zr at *; omega)) dX10_sees_50 (by decide) (fun h50 => ?_) (fun h50 => ?_)
            · refine zy_iinc (b := ((i + 1 : Nat) : Int)) [zf 10 261, zf 100 j, zu, zi ((i + 1 : Nat) : Int)] dX10_sees_55 rfl (by omega) (Nat.le_of_ble_eq_true rfl) rfl rfl ?_
              refine zx_goto (tgt := 27) dX10_sees_58 (by decide) ?_
              exact ih27 (i + 1) (by omega) (lt_s hj (by omega)) (by omega)
            · refine zx_iconst dX10_sees_53 ?_
              refine zx_iret rfl rfl dX10_sees_54 ?_
              rw [hQ]
              refine ⟨congrArg (fun z : Int => (Sum.inl (some (zi z)) : Option zV ⊕ String)) ?_, ?_⟩
              · first
                | exact (zb_f (fun q => h9 (hN1.1.2.2.2.1.1.trans q.1))).symm
                | exact (zb_f (fun q => h20 (by have a := q.2.1; have b := q.2.2.1; have := xw1 a; omega))).symm
                | exact (zb_f (fun q => h50 (by have := q.2.2.2 i (by omega); omega))).symm
                | exact (zb_t (⟨z, by
                    have hk : xK t n S.1 = 1 := (xW_k hpp).mp (by omega)
                    have := xw1 hk
                    exact ⟨hk, by omega, fun k hk2 => hj k (by omega)⟩⟩ : S.2.1 = 0 ∧ isW t n S.1 j)).symm
              exact ⟨hz1, hr1.2.1, hN1⟩
      refine zy_drop 2 [zf 10 261, zf 100 j, zu, zi 0] rfl ?_
      exact L27 _ 0 (by omega) (fun k hk => absurd hk (Nat.not_lt_zero k)) (Nat.lt_succ_self _)
    · refine zx_iconst dX10_sees_23 ?_
      refine zx_iret rfl rfl dX10_sees_24 ?_
      rw [hQ]
      refine ⟨congrArg (fun z : Int => (Sum.inl (some (zi z)) : Option zV ⊕ String)) ?_, ?_⟩
      · first
        | exact (zb_f (fun q => h9 (hN1.1.2.2.2.1.1.trans q.1))).symm
        | exact (zb_f (fun q => h20 (by have a := q.2.1; have b := q.2.2.1; have := xw1 a; omega))).symm
        | exact (zb_f (fun q => h50 (by have := q.2.2.2 i (by omega); omega))).symm
        | exact (zb_t (⟨z, by
            have hk : xK t n S.1 = 1 := (xW_k hpp).mp (by omega)
            have := xw1 hk
            exact ⟨hk, by omega, fun k hk2 => hj k (by omega)⟩⟩ : S.2.1 = 0 ∧ isW t n S.1 j)).symm
      exact ⟨hz1, hr1.2.1, hN1⟩
set_option maxRecDepth 20000 in
set_option maxHeartbeats 2000000 in
theorem sX10_goesPast {l : Launch} {w : zW} (hfl : l.stackTraces = false) {σ : zS} {t : Nat → Int} {n : Nat} {S : zP}  (hz : zOK σ) (hP : PN t n S σ) (hk : S.2.1 = 0 → xK t n S.1 = 1) : Sp l w mX10_goesPast 0 0 [zf 10 261] σ (zqv (none) (fun τ => zOK τ ∧ MX σ τ ∧ PM t n (if S.2.1 = 0 then pN t n S else S) τ)) := by
  obtain ⟨Q, hQ⟩ : ∃ Q : zQ, Q = (zqv (none) (fun τ => zOK τ ∧ MX σ τ ∧ PM t n (if S.2.1 = 0 then pN t n S else S) τ)) := ⟨_, rfl⟩
  rw [← hQ]
  refine zx_enter hfl (by decide) rfl 0 rfl ?_
  show zX l w mX10_goesPast (zMQ w 0 0 Q) 0 [zf 10 261] [] 0 σ
  have hb := hP.1.2.2.2.2.1
  refine zx_aloadN dX10_goesPast_0 rfl rfl ?_
  refine zx_aloadN dX10_goesPast_1 rfl rfl ?_
  refine zy_getI fl_RX10_233 rfl dX10_goesPast_2 rfl ?_
  refine zx_aloadN dX10_goesPast_5 rfl rfl ?_
  refine zy_getI fl_RX10_236 rfl dX10_goesPast_6 rfl ?_
  refine zx_iadd dX10_goesPast_9 ?_
  refine zx_putI fl_RX10_227 rfl (Or.inl fp_10_17) dX10_goesPast_10 ?_
  refine zx_vret rfl dX10_goesPast_13 ?_
  rw [hQ]
  refine ⟨rfl, ?_⟩
  refine ⟨(zOK_put hz (by first | exact hz _ _ | assumption | exact zr_b _ | exact zcmp_r _ _ | (unfold zr at *; omega))), MX_put (by decide) (MX_rf _), ?_⟩
  by_cases z : S.2.1 = 0
  · rw [if_pos z]
    obtain ⟨w17, w18, w19⟩ := hP.2 z
    have e := xW_1 (hk z)
    have le := (xE_le (t := t) hP.1.2.2.1).2
    refine PM_mv hP.1 (by omega) le rfl (fun _ => ?_)
    rw [w18, w19]
    refine ⟨by omega, ?_⟩
    rw [show (((xS t n S.1 : Nat) : Int) + ((xW t n S.1 : Nat) : Int)) = ((xE t n S.1 : Nat) : Int) by omega, Int.toNat_natCast]; rfl
  · rw [if_neg z]
    exact PM_mv hP.1 (by omega) hP.1.2.2.1 rfl (fun q => absurd q z)
set_option maxRecDepth 20000 in
set_option maxHeartbeats 2000000 in
theorem sX10_semicolon {l : Launch} {w : zW} (hfl : l.stackTraces = false) {σ : zS} {t : Nat → Int} {n : Nat} {S : zP}  (hz : zOK σ) (hP : PM t n S σ) : Sp l w mX10_semicolon 2 0 [zf 10 261] σ (zqv (none) (fun τ => zOK τ ∧ MX σ τ ∧ PM t n (pSem t n S) τ)) := by
  obtain ⟨Q, hQ⟩ : ∃ Q : zQ, Q = (zqv (none) (fun τ => zOK τ ∧ MX σ τ ∧ PM t n (pSem t n S) τ)) := ⟨_, rfl⟩
  rw [← hQ]
  refine zx_enter hfl (by decide) rfl 0 rfl ?_
  show zX l w mX10_semicolon (zMQ w 2 0 Q) 0 [zf 10 261] [] 0 σ
  refine zx_aloadN dX10_semicolon_0 rfl rfl ?_
  refine zy_getI fl_RX10_243 rfl dX10_semicolon_1 rfl ?_
  refine zx_if_eq (tgt := 8) (by first | exact hz _ _ | assumption | exact zr_b _ | exact zcmp_r _ _ | exact uM_z (by assumption) _ _ | (unfold zr at *; omega)) dX10_semicolon_4 (by decide) (fun h4 => ?_) (fun h4 => ?_)
  · have z : S.2.1 = 0 := hP.2.2.2.1.1.symm.trans h4
    have hpp := hP.2.2.1
    obtain ⟨ps1, ps2, ps3⟩ := hP.2.2.2.2.2 z
    refine zx_aloadN dX10_semicolon_8 rfl rfl ?_
    refine zx_aloadN dX10_semicolon_9 rfl rfl ?_
    refine zy_cvR [] (sX10_next  hfl hz (by first | assumption | omega)) dX10_semicolon_10 (by decide) rfl cw_RX10_249 okX10_next rfl (Nat.le_of_ble_eq_true rfl) ⟨Nat.le_of_ble_eq_true rfl, Nat.le_of_ble_eq_true rfl, Nat.le_of_ble_eq_true rfl, Nat.le_of_ble_eq_true rfl⟩ (fun τ10 hr10 => ?_)
    have hz10 : zOK τ10 := hr10.1
    refine zy_top (b := uM σ n (xS t n S.1)) (by rw [ps3]) ?_
    obtain ⟨w17, w18, w19⟩ := hr10.2.2.2 z
    have h59 := uM_59 (k := xS t n S.1) hP.1
    have hxs := xS_le (t := t) hpp
    have hnn := hP.2.1.2
    refine zx_bipush dX10_semicolon_13 rfl ?_
    refine zx_icmp_ne (tgt := 22) (by first | exact hz10 _ _ | assumption | exact zr_b _ | exact zcmp_r _ _ | exact uM_z (by assumption) _ _ | (unfold zr at *; omega)) (by first | exact hz10 _ _ | assumption | exact zr_b _ | exact zcmp_r _ _ | exact uM_z (by assumption) _ _ | (unfold zr at *; omega)) dX10_semicolon_15 (by decide) (fun h15 => ?_) (fun h15 => ?_)
    · refine zx_iconst dX10_semicolon_22 ?_
      refine zy_top (b := zb False) (zb_f (fun q => q)).symm ?_
      refine zx_iconst dX10_semicolon_23 ?_
      refine zy_cvvR [zi (zb False), zi 1] (sX10_must (A := False) hfl hz10 hr10.2.2 (by omega)) dX10_semicolon_24 (by decide) rfl cw_RX10_252 okX10_must rfl (Nat.le_of_ble_eq_true rfl) ⟨Nat.le_of_ble_eq_true rfl, Nat.le_of_ble_eq_true rfl, Nat.le_of_ble_eq_true rfl, Nat.le_of_ble_eq_true rfl⟩ (fun τ24 hr24 => ?_)
      have hz24 : zOK τ24 := hr24.1
      have e17 : τ24.1 261 17 = xS t n S.1 := (hr24.2.2.2 17 (by decide) (by decide)).trans w17
      refine zx_aloadN dX10_semicolon_27 rfl rfl ?_
      refine zx_dup rfl dX10_semicolon_28 ?_
      refine zy_getI fl_RX10_227 rfl dX10_semicolon_29 rfl ?_
      refine zx_iconst dX10_semicolon_32 ?_
      refine zx_iadd dX10_semicolon_33 ?_
      refine zx_putI fl_RX10_227 rfl (Or.inl fp_10_17) dX10_semicolon_34 ?_
      refine zx_vret rfl dX10_semicolon_37 ?_
      rw [hQ]
      refine ⟨rfl, ?_⟩
      first
      | (have hz4 : ¬ S.2.1 = 0 := fun q => h4 (hP.2.2.2.1.1.trans q)
         rw [pSem_n (fun q => hz4 q.1), pF_n hz4]
         exact ⟨(zOK_put hz24 (by first | exact hz24 _ _ | assumption | exact zr_b _ | exact zcmp_r _ _ | exact uM_z (by assumption) _ _ | (unfold zr at *; omega))), MX_rf _, hP⟩)
      | (have hk3 : xK t n S.1 = 3 := by
           have q := h59.mp h15
           unfold xK; rw [if_neg (by omega)]; exact kb_3.mpr q.2
         have hE3 : xE t n S.1 = xS t n S.1 + 1 := by unfold xE; rw [hk3, if_neg (by decide), if_neg (by decide), if_neg (by decide)]
         have hq := hr24.2.2.1
         rw [if_pos trivial] at hq
         rw [pSem_y z hk3]
         have q := h59.mp h15
         refine ⟨(zOK_put hz24 (by first | exact hz24 _ _ | assumption | exact zr_b _ | exact zcmp_r _ _ | exact uM_z (by assumption) _ _ | (unfold zr at *; omega))), MX_put (by decide) (MX_tr hr10.2.1 hr24.2.1), PM_mv hq.1 (by omega) (by show xE t n S.1 ≤ n; omega) rfl (fun _ => ?_)⟩
         rw [show τ24.1 261 17 + 1 = ((xE t n S.1 : Nat) : Int) by omega, Int.toNat_natCast]
         exact ⟨by omega, rfl⟩)
      | (have hk3 : ¬ xK t n S.1 = 3 := fun q => h15 (h59.mpr (by
           have a := xK_n (t := t) (n := n) (p := S.1) (by omega)
           exact ⟨a.1, kb_3.mp (a.2.symm.trans q)⟩))
         have hq := hr24.2.2.1
         rw [if_neg (fun q => q)] at hq
         rw [pSem_n (fun q => hk3 q.2)]
         exact ⟨(zOK_put hz24 (by first | exact hz24 _ _ | assumption | exact zr_b _ | exact zcmp_r _ _ | exact uM_z (by assumption) _ _ | (unfold zr at *; omega))), MX_put (by decide) (MX_tr hr10.2.1 hr24.2.1), PM_mv hq.1 (by omega) hq.1.2.2.1 rfl (fun q => absurd q (pF_nz (by decide)))⟩)
    · refine zx_iconst dX10_semicolon_18 ?_
      refine zx_goto (tgt := 23) dX10_semicolon_19 (by decide) ?_
      refine zy_top (b := zb True) (zb_t trivial).symm ?_
      refine zx_iconst dX10_semicolon_23 ?_
      refine zy_cvvR [zi (zb True), zi 1] (sX10_must (A := True) hfl hz10 hr10.2.2 (by omega)) dX10_semicolon_24 (by decide) rfl cw_RX10_252 okX10_must rfl (Nat.le_of_ble_eq_true rfl) ⟨Nat.le_of_ble_eq_true rfl, Nat.le_of_ble_eq_true rfl, Nat.le_of_ble_eq_true rfl, Nat.le_of_ble_eq_true rfl⟩ (fun τ24 hr24 => ?_)
      have hz24 : zOK τ24 := hr24.1
      have e17 : τ24.1 261 17 = xS t n S.1 := (hr24.2.2.2 17 (by decide) (by decide)).trans w17
      refine zx_aloadN dX10_semicolon_27 rfl rfl ?_
      refine zx_dup rfl dX10_semicolon_28 ?_
      refine zy_getI fl_RX10_227 rfl dX10_semicolon_29 rfl ?_
      refine zx_iconst dX10_semicolon_32 ?_
      refine zx_iadd dX10_semicolon_33 ?_
      refine zx_putI fl_RX10_227 rfl (Or.inl fp_10_17) dX10_semicolon_34 ?_
      refine zx_vret rfl dX10_semicolon_37 ?_
      rw [hQ]
      refine ⟨rfl, ?_⟩
      first
      | (have hz4 : ¬ S.2.1 = 0 := fun q => h4 (hP.2.2.2.1.1.trans q)
         rw [pSem_n (fun q => hz4 q.1), pF_n hz4]
         exact ⟨(zOK_put hz24 (by first | exact hz24 _ _ | assumption | exact zr_b _ | exact zcmp_r _ _ | exact uM_z (by assumption) _ _ | (unfold zr at *; omega))), MX_rf _, hP⟩)
      | (have hk3 : xK t n S.1 = 3 := by
           have q := h59.mp h15
           unfold xK; rw [if_neg (by omega)]; exact kb_3.mpr q.2
         have hE3 : xE t n S.1 = xS t n S.1 + 1 := by unfold xE; rw [hk3, if_neg (by decide), if_neg (by decide), if_neg (by decide)]
         have hq := hr24.2.2.1
         rw [if_pos trivial] at hq
         rw [pSem_y z hk3]
         have q := h59.mp h15
         refine ⟨(zOK_put hz24 (by first | exact hz24 _ _ | assumption | exact zr_b _ | exact zcmp_r _ _ | exact uM_z (by assumption) _ _ | (unfold zr at *; omega))), MX_put (by decide) (MX_tr hr10.2.1 hr24.2.1), PM_mv hq.1 (by omega) (by show xE t n S.1 ≤ n; omega) rfl (fun _ => ?_)⟩
         rw [show τ24.1 261 17 + 1 = ((xE t n S.1 : Nat) : Int) by omega, Int.toNat_natCast]
         exact ⟨by omega, rfl⟩)
      | (have hk3 : ¬ xK t n S.1 = 3 := fun q => h15 (h59.mpr (by
           have a := xK_n (t := t) (n := n) (p := S.1) (by omega)
           exact ⟨a.1, kb_3.mp (a.2.symm.trans q)⟩))
         have hq := hr24.2.2.1
         rw [if_neg (fun q => q)] at hq
         rw [pSem_n (fun q => hk3 q.2)]
         exact ⟨(zOK_put hz24 (by first | exact hz24 _ _ | assumption | exact zr_b _ | exact zcmp_r _ _ | exact uM_z (by assumption) _ _ | (unfold zr at *; omega))), MX_put (by decide) (MX_tr hr10.2.1 hr24.2.1), PM_mv hq.1 (by omega) hq.1.2.2.1 rfl (fun q => absurd q (pF_nz (by decide)))⟩)
  · refine zx_vret rfl dX10_semicolon_7 ?_
    rw [hQ]
    refine ⟨rfl, ?_⟩
    first
    | (have hz4 : ¬ S.2.1 = 0 := fun q => h4 (hP.2.2.2.1.1.trans q)
       rw [pSem_n (fun q => hz4 q.1), pF_n hz4]
       exact ⟨hz, MX_rf _, hP⟩)
    | (have hk3 : xK t n S.1 = 3 := by
         have q := h59.mp h15
         unfold xK; rw [if_neg (by omega)]; exact kb_3.mpr q.2
       have hE3 : xE t n S.1 = xS t n S.1 + 1 := by unfold xE; rw [hk3, if_neg (by decide), if_neg (by decide), if_neg (by decide)]
       have hq := hr24.2.2.1
       rw [if_pos trivial] at hq
       rw [pSem_y z hk3]
       have q := h59.mp h15
       refine ⟨hz, MX_put (by decide) (MX_tr hr10.2.1 hr24.2.1), PM_mv hq.1 (by omega) (by show xE t n S.1 ≤ n; omega) rfl (fun _ => ?_)⟩
       rw [show τ24.1 261 17 + 1 = ((xE t n S.1 : Nat) : Int) by omega, Int.toNat_natCast]
       exact ⟨by omega, rfl⟩)
    | (have hk3 : ¬ xK t n S.1 = 3 := fun q => h15 (h59.mpr (by
         have a := xK_n (t := t) (n := n) (p := S.1) (by omega)
         exact ⟨a.1, kb_3.mp (a.2.symm.trans q)⟩))
       have hq := hr24.2.2.1
       rw [if_neg (fun q => q)] at hq
       rw [pSem_n (fun q => hk3 q.2)]
       exact ⟨hz, MX_put (by decide) (MX_tr hr10.2.1 hr24.2.1), PM_mv hq.1 (by omega) hq.1.2.2.1 rfl (fun q => absurd q (pF_nz (by decide)))⟩)
set_option maxRecDepth 20000 in
set_option maxHeartbeats 2000000 in
theorem sX10_number {l : Launch} {w : zW} (hfl : l.stackTraces = false) {σ : zS} {t : Nat → Int} {n : Nat} {S : zP} {a b : Int} (hz : zOK σ) (hP : PM t n S σ) (ha : zr a) (hb : zr b) : Sp l w mX10_number 2 0 [zf 10 261, zi a, zi b] σ (zqv (some (zi (if (pNum t n S a b).2.1 = 0 then pV t n S.1 else a))) (fun τ => zOK τ ∧ MX σ τ ∧ PM t n (pNum t n S a b) τ)) := by
  obtain ⟨Q, hQ⟩ : ∃ Q : zQ, Q = (zqv (some (zi (if (pNum t n S a b).2.1 = 0 then pV t n S.1 else a))) (fun τ => zOK τ ∧ MX σ τ ∧ PM t n (pNum t n S a b) τ)) := ⟨_, rfl⟩
  rw [← hQ]
  refine zx_enter hfl (by decide) rfl 1 rfl ?_
  show zX l w mX10_number (zMQ w 2 0 Q) 0 [zf 10 261, zi a, zi b, zu] [] 0 σ
  refine zx_aloadN dX10_number_0 rfl rfl ?_
  refine zy_getI fl_RX10_243 rfl dX10_number_1 rfl ?_
  refine zx_if_eq (tgt := 9) (by first | exact hz _ _ | assumption | exact zr_b _ | exact zcmp_r _ _ | exact uM_z (by assumption) _ _ | (unfold zr at *; omega)) dX10_number_4 (by decide) (fun h4 => ?_) (fun h4 => ?_)
  · have z : S.2.1 = 0 := hP.2.2.2.1.1.symm.trans h4
    have hpp := hP.2.2.1
    obtain ⟨ps1, ps2, ps3⟩ := hP.2.2.2.2.2 z
    refine zx_aloadN dX10_number_9 rfl rfl ?_
    refine zx_aloadN dX10_number_10 rfl rfl ?_
    refine zy_cvR [] (sX10_next  hfl hz (by first | assumption | omega)) dX10_number_11 (by decide) rfl cw_RX10_249 okX10_next rfl (Nat.le_of_ble_eq_true rfl) ⟨Nat.le_of_ble_eq_true rfl, Nat.le_of_ble_eq_true rfl, Nat.le_of_ble_eq_true rfl, Nat.le_of_ble_eq_true rfl⟩ (fun τ11 hr11 => ?_)
    have hz11 : zOK τ11 := hr11.1
    refine zy_top (b := uM σ n (xS t n S.1)) (by rw [ps3]) ?_
    obtain ⟨w17, w18, w19⟩ := hr11.2.2.2 z
    have hxs := xS_le (t := t) hpp
    have hnn := hP.2.1.2
    refine zx_i2l (by first | exact hz11 _ _ | assumption | exact zr_b _ | exact zcmp_r _ _ | exact uM_z (by assumption) _ _ | (unfold zr at *; omega)) dX10_number_14 ?_
    refine zx_ldc2 (a := 48) dX10_number_15 lk_RX10_256 ?_
    refine zx_ldc2 (a := 57) dX10_number_18 lk_RX10_258 ?_
    refine zy_cs [zl (uM σ n (xS t n S.1)), zl 48, zl 57] (sX10_in  hfl hz11 (by first | exact hz11 _ _ | assumption | exact zr_b _ | exact zcmp_r _ _ | exact uM_z (by assumption) _ _ | (unfold zr at *; omega)) (by first | exact hz11 _ _ | assumption | exact zr_b _ | exact zcmp_r _ _ | exact uM_z (by assumption) _ _ | (unfold zr at *; omega)) (by first | exact hz11 _ _ | assumption | exact zr_b _ | exact zcmp_r _ _ | exact uM_z (by assumption) _ _ | (unfold zr at *; omega))) dX10_number_21 cw_RX10_74 okX10_in rfl (Nat.le_of_ble_eq_true rfl) ⟨Nat.le_of_ble_eq_true rfl, Nat.le_of_ble_eq_true rfl, Nat.le_of_ble_eq_true rfl, Nat.le_of_ble_eq_true rfl⟩ ?_
    refine zx_iconst dX10_number_24 ?_
    refine zy_cvvR [zi (zb (48 ≤ (uM σ n (xS t n S.1)) ∧ (uM σ n (xS t n S.1)) ≤ 57)), zi 1] (sX10_must_r (A := (48 ≤ (uM σ n (xS t n S.1)) ∧ (uM σ n (xS t n S.1)) ≤ 57)) hfl hz11 (by first | assumption | omega)) dX10_number_25 (by decide) rfl cw_RX10_252 okX10_must rfl (Nat.le_of_ble_eq_true rfl) ⟨Nat.le_of_ble_eq_true rfl, Nat.le_of_ble_eq_true rfl, Nat.le_of_ble_eq_true rfl, Nat.le_of_ble_eq_true rfl⟩ (fun τ25 hr25 => ?_)
    have hz25 : zOK τ25 := hr25.1
    refine zx_iconst dX10_number_28 ?_
    refine zy_istoreN [zf 10 261, zi a, zi b, zi 0] dX10_number_29 rfl (Nat.le_of_ble_eq_true rfl) (Nat.le_of_ble_eq_true rfl) rfl rfl ?_
    have L30 : ∀ (N : Nat) (τ : zS) (p : Nat) (v : Int), (zOK τ) → (MX σ τ) → (MX τ11 τ) → (τ.1 261 17 = ((p : Nat) : Int)) → (∀ i, i ≠ 17 → τ.1 261 i = τ25.1 261 i) → (rnE (isDg t) n (xS t n S.1) = rnE (isDg t) n p) → (xS t n S.1 ≤ p ∧ p ≤ n) → (∀ i, i < p - xS t n S.1 → isDg t (xS t n S.1 + i)) → (v = dv t (xS t n S.1) (if p - xS t n S.1 < 4 then p - xS t n S.1 else 4) ∧ 0 ≤ v ∧ v < 10000) → (1402 - p) < N → zX l w mX10_number (zMQ w 2 0 Q) 30 [zf 10 261, zi a, zi b, zi v] [] 0 τ := by
      intro N
      induction N with
      | zero => intro τ p v _ _ _ _ _ _ _ _ _ _; exact absurd (by assumption) (Nat.not_lt_zero _)
      | succ N ih30 =>
        intro τ p v hz h1 h1b h2 h3 h4r h5r h6 h7 hN
        have hTt := TM_e (MX_t h1) hP.1
        have hn16 : τ.1 261 16 = (n : Int) := (MX_c h1 (by decide)).trans hP.2.1.1
        have w18t : τ.1 261 18 = xS t n S.1 := (h3 18 (by decide)).trans ((hr25.2.2.1 18 (by decide) (by decide)).trans w18)
        have hzv : zr v := by unfold zr; omega
        refine zx_aloadN dX10_number_30 rfl rfl ?_
        refine zx_aloadN dX10_number_31 rfl rfl ?_
        refine zy_getI fl_RX10_227 rfl dX10_number_32 rfl ?_
        refine zy_top (b := ((p : Nat) : Int)) (h2) ?_
        refine zy_cv [zi ((p : Nat) : Int)] (sX10_byteAt (n := n) (k := p) hfl hz ⟨hn16, hnn⟩ (by first | assumption | omega)) dX10_number_35 (by decide) rfl cw_RX10_230 okX10_byteAt rfl (Nat.le_of_ble_eq_true rfl) ⟨Nat.le_of_ble_eq_true rfl, Nat.le_of_ble_eq_true rfl, Nat.le_of_ble_eq_true rfl, Nat.le_of_ble_eq_true rfl⟩ ?_
        refine zx_i2l (by first | exact hz _ _ | assumption | exact zr_b _ | exact zcmp_r _ _ | exact uM_z (by assumption) _ _ | (unfold zr at *; omega)) dX10_number_38 ?_
        refine zx_ldc2 (a := 48) dX10_number_39 lk_RX10_256 ?_
        refine zx_ldc2 (a := 57) dX10_number_42 lk_RX10_258 ?_
        refine zy_cs [zl (uM τ n p), zl 48, zl 57] (sX10_in  hfl hz (by first | exact hz _ _ | assumption | exact zr_b _ | exact zcmp_r _ _ | exact uM_z (by assumption) _ _ | (unfold zr at *; omega)) (by first | exact hz _ _ | assumption | exact zr_b _ | exact zcmp_r _ _ | exact uM_z (by assumption) _ _ | (unfold zr at *; omega)) (by first | exact hz _ _ | assumption | exact zr_b _ | exact zcmp_r _ _ | exact uM_z (by assumption) _ _ | (unfold zr at *; omega))) dX10_number_45 cw_RX10_74 okX10_in rfl (Nat.le_of_ble_eq_true rfl) ⟨Nat.le_of_ble_eq_true rfl, Nat.le_of_ble_eq_true rfl, Nat.le_of_ble_eq_true rfl, Nat.le_of_ble_eq_true rfl⟩ ?_
        refine zx_if_eq (tgt := 98) (by first | exact hz _ _ | assumption | exact zr_b _ | exact zcmp_r _ _ | exact uM_z (by assumption) _ _ | (unfold zr at *; omega)) dX10_number_48 (by decide) (fun h48 => ?_) (fun h48 => ?_)
        · have h48 := zb_0.mp h48
          refine zx_aloadN dX10_number_98 rfl rfl ?_
          refine zx_aloadN dX10_number_99 rfl rfl ?_
          refine zy_getI fl_RX10_227 rfl dX10_number_100 rfl ?_
          refine zy_top (b := ((p : Nat) : Int)) (h2) ?_
          refine zx_aloadN dX10_number_103 rfl rfl ?_
          refine zy_getI fl_RX10_233 rfl dX10_number_104 rfl ?_
          refine zy_top (b := ((xS t n S.1 : Nat) : Int)) (w18t) ?_
          refine zx_isub dX10_number_107 ?_
          refine zx_iconst dX10_number_108 ?_
          refine zx_icmp_gt (tgt := 116) (by first | exact hz _ _ | assumption | exact zr_b _ | exact zcmp_r _ _ | exact uM_z (by assumption) _ _ | (unfold zr at *; omega)) (by first | exact hz _ _ | assumption | exact zr_b _ | exact zcmp_r _ _ | exact uM_z (by assumption) _ _ | (unfold zr at *; omega)) dX10_number_109 (by decide) (fun h109 => ?_) (fun h109 => ?_)
          · refine zx_iconst dX10_number_116 ?_
            refine zy_top (b := zb False) (zb_f (fun q => q)).symm ?_
            refine zx_iconst dX10_number_117 ?_
            refine zy_cvvR [zi (zb False), zi 1] (sX10_must_r (A := False) hfl hz (by first | assumption | omega)) dX10_number_118 (by decide) rfl cw_RX10_252 okX10_must rfl (Nat.le_of_ble_eq_true rfl) ⟨Nat.le_of_ble_eq_true rfl, Nat.le_of_ble_eq_true rfl, Nat.le_of_ble_eq_true rfl, Nat.le_of_ble_eq_true rfl⟩ (fun τ118 hr118 => ?_)
            have hz118 : zOK τ118 := hr118.1
            refine zx_aloadN dX10_number_121 rfl rfl ?_
            refine zx_iloadN dX10_number_122 rfl rfl ?_
            refine zx_i2l (by first | exact hz118 _ _ | assumption | exact zr_b _ | exact zcmp_r _ _ | exact uM_z (by assumption) _ _ | (unfold zr at *; omega)) dX10_number_123 ?_
            refine zx_iloadN dX10_number_124 rfl rfl ?_
            refine zx_i2l (by first | exact hz118 _ _ | assumption | exact zr_b _ | exact zcmp_r _ _ | exact uM_z (by assumption) _ _ | (unfold zr at *; omega)) dX10_number_125 ?_
            refine zx_iloadN dX10_number_126 rfl rfl ?_
            refine zx_i2l (by first | exact hz118 _ _ | assumption | exact zr_b _ | exact zcmp_r _ _ | exact uM_z (by assumption) _ _ | (unfold zr at *; omega)) dX10_number_127 ?_
            refine zy_cs [zl v, zl a, zl b] (sX10_in  hfl hz118 (by first | exact hz118 _ _ | assumption | exact zr_b _ | exact zcmp_r _ _ | exact uM_z (by assumption) _ _ | (unfold zr at *; omega)) (by first | exact hz118 _ _ | assumption | exact zr_b _ | exact zcmp_r _ _ | exact uM_z (by assumption) _ _ | (unfold zr at *; omega)) (by first | exact hz118 _ _ | assumption | exact zr_b _ | exact zcmp_r _ _ | exact uM_z (by assumption) _ _ | (unfold zr at *; omega))) dX10_number_128 cw_RX10_74 okX10_in rfl (Nat.le_of_ble_eq_true rfl) ⟨Nat.le_of_ble_eq_true rfl, Nat.le_of_ble_eq_true rfl, Nat.le_of_ble_eq_true rfl, Nat.le_of_ble_eq_true rfl⟩ ?_
            refine zx_iconst dX10_number_131 ?_
            refine zy_cvvR [zi (zb (a ≤ v ∧ v ≤ b)), zi 2] (sX10_must_r (A := (a ≤ v ∧ v ≤ b)) hfl hz118 (by first | assumption | omega)) dX10_number_132 (by decide) rfl cw_RX10_252 okX10_must rfl (Nat.le_of_ble_eq_true rfl) ⟨Nat.le_of_ble_eq_true rfl, Nat.le_of_ble_eq_true rfl, Nat.le_of_ble_eq_true rfl, Nat.le_of_ble_eq_true rfl⟩ (fun τ132 hr132 => ?_)
            have hz132 : zOK τ132 := hr132.1
            refine zx_aloadN dX10_number_135 rfl rfl ?_
            refine zy_getI fl_RX10_243 rfl dX10_number_136 rfl ?_
            refine zx_if_ne (tgt := 146) (by first | exact hz132 _ _ | assumption | exact zr_b _ | exact zcmp_r _ _ | exact uM_z (by assumption) _ _ | (unfold zr at *; omega)) dX10_number_139 (by decide) (fun h139 => ?_) (fun h139 => ?_)
            · refine zx_iloadN dX10_number_146 rfl rfl ?_
              refine zx_iret rfl rfl dX10_number_147 ?_
              rw [hQ]
              refine ⟨congrArg (fun z : Int => (Sum.inl (some (zi z)) : Option zV ⊕ String)) ?_, ?_⟩
              · first
                | (have hz4 : ¬ S.2.1 = 0 := fun q => h4 (hP.2.2.2.1.1.trans q)
                   rw [if_neg (fun q => hz4 (pNum_s q).1)])
                | (have hnd : ¬ (p < n ∧ isDg t p) := fun q => h48 ((uM_dg (k := p) hTt).mpr q)
                   have k2 : (48 ≤ uM σ n (xS t n S.1) ∧ uM σ n (xS t n S.1) ≤ 57) ↔ xK t n S.1 = 2 := by
                     rw [uM_dg hP.1]
                     constructor
                     · rintro ⟨q1, q2⟩; unfold xK; rw [if_neg (by omega)]; exact kb_2.mpr q2
                     · intro q
                       have a := xK_n (t := t) (n := n) (p := S.1) (by omega)
                       exact ⟨a.1, kb_2.mp (a.2.symm.trans q)⟩
                   have hpE : rnE (isDg t) n (xS t n S.1) = p := by rw [h4r]; exact rnE_n hnd
                   have e20 : τ11.1 261 20 = 0 := hr11.2.2.1.2.2.2.1.1.trans z
                   have e21 : τ11.1 261 21 = -1 := hr11.2.2.1.2.2.2.1.2.trans ps1
                   have w18c : τ118.1 261 18 = xS t n S.1 := (hr118.2.2.1 18 (by decide) (by decide)).trans w18t
                   have f20 : τ.1 261 20 = τ25.1 261 20 := h3 20 (by decide)
                   have f21 : τ.1 261 21 = τ25.1 261 21 := h3 21 (by decide)
                   have hN := numF (t := t) (n := n) (S := S) (p := p) (v := v) (lo := a) (hi := b) z ps1 k2 (fun q => by rw [(tok_d q).1]; exact hpE.symm) (fun q => by
                       rw [← hpE]; refine rnE_n (fun r => q (k2.mp ((uM_dg hP.1).mpr r)))) (fun q1 q2 => by
                       have ex : xE t n S.1 = p := (tok_d q1).1.trans hpE
                       have hv := h7.1
                       rw [show (if p - xS t n S.1 < 4 then p - xS t n S.1 else 4) = xE t n S.1 - xS t n S.1 by split <;> omega] at hv
                       exact hv) (by first | exact ⟨fun _ => by omega, fun _ => trivial⟩ | exact ⟨fun q => absurd q (fun r => r), fun _ => by omega⟩) Iff.rfl
                     (fun q => by have r := hr25.2.2.2.1 (Or.inl q); exact ⟨r.1.trans e20, r.2.trans e21⟩) (fun q => by have r := hr25.2.2.2.2 q e20; exact ⟨r.1, r.2.trans w18⟩)
                     (fun q => by have r := hr118.2.2.2.1 (by rw [f20]; exact q); exact ⟨r.1.trans f20, r.2.trans f21⟩) (fun q q2 => by have r := hr118.2.2.2.2 q (f20.trans q2); exact ⟨r.1, r.2.trans w18t⟩)
                     (fun q => hr132.2.2.2.1 q) (fun q q2 => by have r := hr132.2.2.2.2 q q2; exact ⟨r.1, r.2.trans w18c⟩)
                   rw [← hN.1]
                   first
                   | (rw [if_neg h139])
                   | (rw [if_pos h139]; exact (hN.2.2 (hN.1.symm.trans h139)).1))
              first
              | (have hz4 : ¬ S.2.1 = 0 := fun q => h4 (hP.2.2.2.1.1.trans q)
                 rw [pNum_1 (fun q => hz4 q.1), pF_n hz4]
                 exact ⟨hz132, MX_rf _, hP⟩)
              | (have hnd : ¬ (p < n ∧ isDg t p) := fun q => h48 ((uM_dg (k := p) hTt).mpr q)
                 have k2 : (48 ≤ uM σ n (xS t n S.1) ∧ uM σ n (xS t n S.1) ≤ 57) ↔ xK t n S.1 = 2 := by
                   rw [uM_dg hP.1]
                   constructor
                   · rintro ⟨q1, q2⟩; unfold xK; rw [if_neg (by omega)]; exact kb_2.mpr q2
                   · intro q
                     have a := xK_n (t := t) (n := n) (p := S.1) (by omega)
                     exact ⟨a.1, kb_2.mp (a.2.symm.trans q)⟩
                 have hpE : rnE (isDg t) n (xS t n S.1) = p := by rw [h4r]; exact rnE_n hnd
                 have e20 : τ11.1 261 20 = 0 := hr11.2.2.1.2.2.2.1.1.trans z
                 have e21 : τ11.1 261 21 = -1 := hr11.2.2.1.2.2.2.1.2.trans ps1
                 have w18c : τ118.1 261 18 = xS t n S.1 := (hr118.2.2.1 18 (by decide) (by decide)).trans w18t
                 have f20 : τ.1 261 20 = τ25.1 261 20 := h3 20 (by decide)
                 have f21 : τ.1 261 21 = τ25.1 261 21 := h3 21 (by decide)
                 have hN := numF (t := t) (n := n) (S := S) (p := p) (v := v) (lo := a) (hi := b) z ps1 k2 (fun q => by rw [(tok_d q).1]; exact hpE.symm) (fun q => by
                     rw [← hpE]; refine rnE_n (fun r => q (k2.mp ((uM_dg hP.1).mpr r)))) (fun q1 q2 => by
                     have ex : xE t n S.1 = p := (tok_d q1).1.trans hpE
                     have hv := h7.1
                     rw [show (if p - xS t n S.1 < 4 then p - xS t n S.1 else 4) = xE t n S.1 - xS t n S.1 by split <;> omega] at hv
                     exact hv) (by first | exact ⟨fun _ => by omega, fun _ => trivial⟩ | exact ⟨fun q => absurd q (fun r => r), fun _ => by omega⟩) Iff.rfl
                   (fun q => by have r := hr25.2.2.2.1 (Or.inl q); exact ⟨r.1.trans e20, r.2.trans e21⟩) (fun q => by have r := hr25.2.2.2.2 q e20; exact ⟨r.1, r.2.trans w18⟩)
                   (fun q => by have r := hr118.2.2.2.1 (by rw [f20]; exact q); exact ⟨r.1.trans f20, r.2.trans f21⟩) (fun q q2 => by have r := hr118.2.2.2.2 q (f20.trans q2); exact ⟨r.1, r.2.trans w18t⟩)
                   (fun q => hr132.2.2.2.1 q) (fun q q2 => by have r := hr132.2.2.2.2 q q2; exact ⟨r.1, r.2.trans w18c⟩)
                 have f : ∀ i, i ≠ 17 → i ≠ 20 → i ≠ 21 → τ132.1 261 i = τ11.1 261 i := fun i q1 q2 q3 => (hr132.2.2.1 i q2 q3).trans ((hr118.2.2.1 i q2 q3).trans ((h3 i q1).trans (hr25.2.2.1 i q2 q3)))
                 have m132 : MX τ11 τ132 := MX_tr h1b (MX_tr hr118.2.1 hr132.2.1)
                 · refine ⟨hz132, MX_tr hr11.2.1 m132, PM_fin (τ := σ) (p := p) hr11.2.2 m132 ((hr132.2.2.1 17 (by decide) (by decide)).trans ((hr118.2.2.1 17 (by decide) (by decide)).trans h2)) (by omega) (f 18 (by decide) (by decide) (by decide)) (f 19 (by decide) (by decide) (by decide)) ?_ hN.1 hN.2.1 (fun q => ?_)⟩
                   · exact (pNum_m hpp).2
                   · obtain ⟨q1, q2, q3, q4⟩ := hN.2.2 q
                     exact ⟨q4, h5r.2, by rw [q2, q3]⟩)
            · refine zx_iloadN dX10_number_142 rfl rfl ?_
              refine zx_goto (tgt := 147) dX10_number_143 (by decide) ?_
              refine zx_iret rfl rfl dX10_number_147 ?_
              rw [hQ]
              refine ⟨congrArg (fun z : Int => (Sum.inl (some (zi z)) : Option zV ⊕ String)) ?_, ?_⟩
              · first
                | (have hz4 : ¬ S.2.1 = 0 := fun q => h4 (hP.2.2.2.1.1.trans q)
                   rw [if_neg (fun q => hz4 (pNum_s q).1)])
                | (have hnd : ¬ (p < n ∧ isDg t p) := fun q => h48 ((uM_dg (k := p) hTt).mpr q)
                   have k2 : (48 ≤ uM σ n (xS t n S.1) ∧ uM σ n (xS t n S.1) ≤ 57) ↔ xK t n S.1 = 2 := by
                     rw [uM_dg hP.1]
                     constructor
                     · rintro ⟨q1, q2⟩; unfold xK; rw [if_neg (by omega)]; exact kb_2.mpr q2
                     · intro q
                       have a := xK_n (t := t) (n := n) (p := S.1) (by omega)
                       exact ⟨a.1, kb_2.mp (a.2.symm.trans q)⟩
                   have hpE : rnE (isDg t) n (xS t n S.1) = p := by rw [h4r]; exact rnE_n hnd
                   have e20 : τ11.1 261 20 = 0 := hr11.2.2.1.2.2.2.1.1.trans z
                   have e21 : τ11.1 261 21 = -1 := hr11.2.2.1.2.2.2.1.2.trans ps1
                   have w18c : τ118.1 261 18 = xS t n S.1 := (hr118.2.2.1 18 (by decide) (by decide)).trans w18t
                   have f20 : τ.1 261 20 = τ25.1 261 20 := h3 20 (by decide)
                   have f21 : τ.1 261 21 = τ25.1 261 21 := h3 21 (by decide)
                   have hN := numF (t := t) (n := n) (S := S) (p := p) (v := v) (lo := a) (hi := b) z ps1 k2 (fun q => by rw [(tok_d q).1]; exact hpE.symm) (fun q => by
                       rw [← hpE]; refine rnE_n (fun r => q (k2.mp ((uM_dg hP.1).mpr r)))) (fun q1 q2 => by
                       have ex : xE t n S.1 = p := (tok_d q1).1.trans hpE
                       have hv := h7.1
                       rw [show (if p - xS t n S.1 < 4 then p - xS t n S.1 else 4) = xE t n S.1 - xS t n S.1 by split <;> omega] at hv
                       exact hv) (by first | exact ⟨fun _ => by omega, fun _ => trivial⟩ | exact ⟨fun q => absurd q (fun r => r), fun _ => by omega⟩) Iff.rfl
                     (fun q => by have r := hr25.2.2.2.1 (Or.inl q); exact ⟨r.1.trans e20, r.2.trans e21⟩) (fun q => by have r := hr25.2.2.2.2 q e20; exact ⟨r.1, r.2.trans w18⟩)
                     (fun q => by have r := hr118.2.2.2.1 (by rw [f20]; exact q); exact ⟨r.1.trans f20, r.2.trans f21⟩) (fun q q2 => by have r := hr118.2.2.2.2 q (f20.trans q2); exact ⟨r.1, r.2.trans w18t⟩)
                     (fun q => hr132.2.2.2.1 q) (fun q q2 => by have r := hr132.2.2.2.2 q q2; exact ⟨r.1, r.2.trans w18c⟩)
                   rw [← hN.1]
                   first
                   | (rw [if_neg h139])
                   | (rw [if_pos h139]; exact (hN.2.2 (hN.1.symm.trans h139)).1))
              first
              | (have hz4 : ¬ S.2.1 = 0 := fun q => h4 (hP.2.2.2.1.1.trans q)
                 rw [pNum_1 (fun q => hz4 q.1), pF_n hz4]
                 exact ⟨hz132, MX_rf _, hP⟩)
              | (have hnd : ¬ (p < n ∧ isDg t p) := fun q => h48 ((uM_dg (k := p) hTt).mpr q)
                 have k2 : (48 ≤ uM σ n (xS t n S.1) ∧ uM σ n (xS t n S.1) ≤ 57) ↔ xK t n S.1 = 2 := by
                   rw [uM_dg hP.1]
                   constructor
                   · rintro ⟨q1, q2⟩; unfold xK; rw [if_neg (by omega)]; exact kb_2.mpr q2
                   · intro q
                     have a := xK_n (t := t) (n := n) (p := S.1) (by omega)
                     exact ⟨a.1, kb_2.mp (a.2.symm.trans q)⟩
                 have hpE : rnE (isDg t) n (xS t n S.1) = p := by rw [h4r]; exact rnE_n hnd
                 have e20 : τ11.1 261 20 = 0 := hr11.2.2.1.2.2.2.1.1.trans z
                 have e21 : τ11.1 261 21 = -1 := hr11.2.2.1.2.2.2.1.2.trans ps1
                 have w18c : τ118.1 261 18 = xS t n S.1 := (hr118.2.2.1 18 (by decide) (by decide)).trans w18t
                 have f20 : τ.1 261 20 = τ25.1 261 20 := h3 20 (by decide)
                 have f21 : τ.1 261 21 = τ25.1 261 21 := h3 21 (by decide)
                 have hN := numF (t := t) (n := n) (S := S) (p := p) (v := v) (lo := a) (hi := b) z ps1 k2 (fun q => by rw [(tok_d q).1]; exact hpE.symm) (fun q => by
                     rw [← hpE]; refine rnE_n (fun r => q (k2.mp ((uM_dg hP.1).mpr r)))) (fun q1 q2 => by
                     have ex : xE t n S.1 = p := (tok_d q1).1.trans hpE
                     have hv := h7.1
                     rw [show (if p - xS t n S.1 < 4 then p - xS t n S.1 else 4) = xE t n S.1 - xS t n S.1 by split <;> omega] at hv
                     exact hv) (by first | exact ⟨fun _ => by omega, fun _ => trivial⟩ | exact ⟨fun q => absurd q (fun r => r), fun _ => by omega⟩) Iff.rfl
                   (fun q => by have r := hr25.2.2.2.1 (Or.inl q); exact ⟨r.1.trans e20, r.2.trans e21⟩) (fun q => by have r := hr25.2.2.2.2 q e20; exact ⟨r.1, r.2.trans w18⟩)
                   (fun q => by have r := hr118.2.2.2.1 (by rw [f20]; exact q); exact ⟨r.1.trans f20, r.2.trans f21⟩) (fun q q2 => by have r := hr118.2.2.2.2 q (f20.trans q2); exact ⟨r.1, r.2.trans w18t⟩)
                   (fun q => hr132.2.2.2.1 q) (fun q q2 => by have r := hr132.2.2.2.2 q q2; exact ⟨r.1, r.2.trans w18c⟩)
                 have f : ∀ i, i ≠ 17 → i ≠ 20 → i ≠ 21 → τ132.1 261 i = τ11.1 261 i := fun i q1 q2 q3 => (hr132.2.2.1 i q2 q3).trans ((hr118.2.2.1 i q2 q3).trans ((h3 i q1).trans (hr25.2.2.1 i q2 q3)))
                 have m132 : MX τ11 τ132 := MX_tr h1b (MX_tr hr118.2.1 hr132.2.1)
                 · refine ⟨hz132, MX_tr hr11.2.1 m132, PM_fin (τ := σ) (p := p) hr11.2.2 m132 ((hr132.2.2.1 17 (by decide) (by decide)).trans ((hr118.2.2.1 17 (by decide) (by decide)).trans h2)) (by omega) (f 18 (by decide) (by decide) (by decide)) (f 19 (by decide) (by decide) (by decide)) ?_ hN.1 hN.2.1 (fun q => ?_)⟩
                   · exact (pNum_m hpp).2
                   · obtain ⟨q1, q2, q3, q4⟩ := hN.2.2 q
                     exact ⟨q4, h5r.2, by rw [q2, q3]⟩)
          · refine zx_iconst dX10_number_112 ?_
            refine zx_goto (tgt := 117) dX10_number_113 (by decide) ?_
            refine zy_top (b := zb True) (zb_t trivial).symm ?_
            refine zx_iconst dX10_number_117 ?_
            refine zy_cvvR [zi (zb True), zi 1] (sX10_must_r (A := True) hfl hz (by first | assumption | omega)) dX10_number_118 (by decide) rfl cw_RX10_252 okX10_must rfl (Nat.le_of_ble_eq_true rfl) ⟨Nat.le_of_ble_eq_true rfl, Nat.le_of_ble_eq_true rfl, Nat.le_of_ble_eq_true rfl, Nat.le_of_ble_eq_true rfl⟩ (fun τ118 hr118 => ?_)
            have hz118 : zOK τ118 := hr118.1
            refine zx_aloadN dX10_number_121 rfl rfl ?_
            refine zx_iloadN dX10_number_122 rfl rfl ?_
            refine zx_i2l (by first | exact hz118 _ _ | assumption | exact zr_b _ | exact zcmp_r _ _ | exact uM_z (by assumption) _ _ | (unfold zr at *; omega)) dX10_number_123 ?_
            refine zx_iloadN dX10_number_124 rfl rfl ?_
            refine zx_i2l (by first | exact hz118 _ _ | assumption | exact zr_b _ | exact zcmp_r _ _ | exact uM_z (by assumption) _ _ | (unfold zr at *; omega)) dX10_number_125 ?_
            refine zx_iloadN dX10_number_126 rfl rfl ?_
            refine zx_i2l (by first | exact hz118 _ _ | assumption | exact zr_b _ | exact zcmp_r _ _ | exact uM_z (by assumption) _ _ | (unfold zr at *; omega)) dX10_number_127 ?_
            refine zy_cs [zl v, zl a, zl b] (sX10_in  hfl hz118 (by first | exact hz118 _ _ | assumption | exact zr_b _ | exact zcmp_r _ _ | exact uM_z (by assumption) _ _ | (unfold zr at *; omega)) (by first | exact hz118 _ _ | assumption | exact zr_b _ | exact zcmp_r _ _ | exact uM_z (by assumption) _ _ | (unfold zr at *; omega)) (by first | exact hz118 _ _ | assumption | exact zr_b _ | exact zcmp_r _ _ | exact uM_z (by assumption) _ _ | (unfold zr at *; omega))) dX10_number_128 cw_RX10_74 okX10_in rfl (Nat.le_of_ble_eq_true rfl) ⟨Nat.le_of_ble_eq_true rfl, Nat.le_of_ble_eq_true rfl, Nat.le_of_ble_eq_true rfl, Nat.le_of_ble_eq_true rfl⟩ ?_
            refine zx_iconst dX10_number_131 ?_
            refine zy_cvvR [zi (zb (a ≤ v ∧ v ≤ b)), zi 2] (sX10_must_r (A := (a ≤ v ∧ v ≤ b)) hfl hz118 (by first | assumption | omega)) dX10_number_132 (by decide) rfl cw_RX10_252 okX10_must rfl (Nat.le_of_ble_eq_true rfl) ⟨Nat.le_of_ble_eq_true rfl, Nat.le_of_ble_eq_true rfl, Nat.le_of_ble_eq_true rfl, Nat.le_of_ble_eq_true rfl⟩ (fun τ132 hr132 => ?_)
            have hz132 : zOK τ132 := hr132.1
            refine zx_aloadN dX10_number_135 rfl rfl ?_
            refine zy_getI fl_RX10_243 rfl dX10_number_136 rfl ?_
            refine zx_if_ne (tgt := 146) (by first | exact hz132 _ _ | assumption | exact zr_b _ | exact zcmp_r _ _ | exact uM_z (by assumption) _ _ | (unfold zr at *; omega)) dX10_number_139 (by decide) (fun h139 => ?_) (fun h139 => ?_)
            · refine zx_iloadN dX10_number_146 rfl rfl ?_
              refine zx_iret rfl rfl dX10_number_147 ?_
              rw [hQ]
              refine ⟨congrArg (fun z : Int => (Sum.inl (some (zi z)) : Option zV ⊕ String)) ?_, ?_⟩
              · first
                | (have hz4 : ¬ S.2.1 = 0 := fun q => h4 (hP.2.2.2.1.1.trans q)
                   rw [if_neg (fun q => hz4 (pNum_s q).1)])
                | (have hnd : ¬ (p < n ∧ isDg t p) := fun q => h48 ((uM_dg (k := p) hTt).mpr q)
                   have k2 : (48 ≤ uM σ n (xS t n S.1) ∧ uM σ n (xS t n S.1) ≤ 57) ↔ xK t n S.1 = 2 := by
                     rw [uM_dg hP.1]
                     constructor
                     · rintro ⟨q1, q2⟩; unfold xK; rw [if_neg (by omega)]; exact kb_2.mpr q2
                     · intro q
                       have a := xK_n (t := t) (n := n) (p := S.1) (by omega)
                       exact ⟨a.1, kb_2.mp (a.2.symm.trans q)⟩
                   have hpE : rnE (isDg t) n (xS t n S.1) = p := by rw [h4r]; exact rnE_n hnd
                   have e20 : τ11.1 261 20 = 0 := hr11.2.2.1.2.2.2.1.1.trans z
                   have e21 : τ11.1 261 21 = -1 := hr11.2.2.1.2.2.2.1.2.trans ps1
                   have w18c : τ118.1 261 18 = xS t n S.1 := (hr118.2.2.1 18 (by decide) (by decide)).trans w18t
                   have f20 : τ.1 261 20 = τ25.1 261 20 := h3 20 (by decide)
                   have f21 : τ.1 261 21 = τ25.1 261 21 := h3 21 (by decide)
                   have hN := numF (t := t) (n := n) (S := S) (p := p) (v := v) (lo := a) (hi := b) z ps1 k2 (fun q => by rw [(tok_d q).1]; exact hpE.symm) (fun q => by
                       rw [← hpE]; refine rnE_n (fun r => q (k2.mp ((uM_dg hP.1).mpr r)))) (fun q1 q2 => by
                       have ex : xE t n S.1 = p := (tok_d q1).1.trans hpE
                       have hv := h7.1
                       rw [show (if p - xS t n S.1 < 4 then p - xS t n S.1 else 4) = xE t n S.1 - xS t n S.1 by split <;> omega] at hv
                       exact hv) (by first | exact ⟨fun _ => by omega, fun _ => trivial⟩ | exact ⟨fun q => absurd q (fun r => r), fun _ => by omega⟩) Iff.rfl
                     (fun q => by have r := hr25.2.2.2.1 (Or.inl q); exact ⟨r.1.trans e20, r.2.trans e21⟩) (fun q => by have r := hr25.2.2.2.2 q e20; exact ⟨r.1, r.2.trans w18⟩)
                     (fun q => by have r := hr118.2.2.2.1 (by rw [f20]; exact q); exact ⟨r.1.trans f20, r.2.trans f21⟩) (fun q q2 => by have r := hr118.2.2.2.2 q (f20.trans q2); exact ⟨r.1, r.2.trans w18t⟩)
                     (fun q => hr132.2.2.2.1 q) (fun q q2 => by have r := hr132.2.2.2.2 q q2; exact ⟨r.1, r.2.trans w18c⟩)
                   rw [← hN.1]
                   first
                   | (rw [if_neg h139])
                   | (rw [if_pos h139]; exact (hN.2.2 (hN.1.symm.trans h139)).1))
              first
              | (have hz4 : ¬ S.2.1 = 0 := fun q => h4 (hP.2.2.2.1.1.trans q)
                 rw [pNum_1 (fun q => hz4 q.1), pF_n hz4]
                 exact ⟨hz132, MX_rf _, hP⟩)
              | (have hnd : ¬ (p < n ∧ isDg t p) := fun q => h48 ((uM_dg (k := p) hTt).mpr q)
                 have k2 : (48 ≤ uM σ n (xS t n S.1) ∧ uM σ n (xS t n S.1) ≤ 57) ↔ xK t n S.1 = 2 := by
                   rw [uM_dg hP.1]
                   constructor
                   · rintro ⟨q1, q2⟩; unfold xK; rw [if_neg (by omega)]; exact kb_2.mpr q2
                   · intro q
                     have a := xK_n (t := t) (n := n) (p := S.1) (by omega)
                     exact ⟨a.1, kb_2.mp (a.2.symm.trans q)⟩
                 have hpE : rnE (isDg t) n (xS t n S.1) = p := by rw [h4r]; exact rnE_n hnd
                 have e20 : τ11.1 261 20 = 0 := hr11.2.2.1.2.2.2.1.1.trans z
                 have e21 : τ11.1 261 21 = -1 := hr11.2.2.1.2.2.2.1.2.trans ps1
                 have w18c : τ118.1 261 18 = xS t n S.1 := (hr118.2.2.1 18 (by decide) (by decide)).trans w18t
                 have f20 : τ.1 261 20 = τ25.1 261 20 := h3 20 (by decide)
                 have f21 : τ.1 261 21 = τ25.1 261 21 := h3 21 (by decide)
                 have hN := numF (t := t) (n := n) (S := S) (p := p) (v := v) (lo := a) (hi := b) z ps1 k2 (fun q => by rw [(tok_d q).1]; exact hpE.symm) (fun q => by
                     rw [← hpE]; refine rnE_n (fun r => q (k2.mp ((uM_dg hP.1).mpr r)))) (fun q1 q2 => by
                     have ex : xE t n S.1 = p := (tok_d q1).1.trans hpE
                     have hv := h7.1
                     rw [show (if p - xS t n S.1 < 4 then p - xS t n S.1 else 4) = xE t n S.1 - xS t n S.1 by split <;> omega] at hv
                     exact hv) (by first | exact ⟨fun _ => by omega, fun _ => trivial⟩ | exact ⟨fun q => absurd q (fun r => r), fun _ => by omega⟩) Iff.rfl
                   (fun q => by have r := hr25.2.2.2.1 (Or.inl q); exact ⟨r.1.trans e20, r.2.trans e21⟩) (fun q => by have r := hr25.2.2.2.2 q e20; exact ⟨r.1, r.2.trans w18⟩)
                   (fun q => by have r := hr118.2.2.2.1 (by rw [f20]; exact q); exact ⟨r.1.trans f20, r.2.trans f21⟩) (fun q q2 => by have r := hr118.2.2.2.2 q (f20.trans q2); exact ⟨r.1, r.2.trans w18t⟩)
                   (fun q => hr132.2.2.2.1 q) (fun q q2 => by have r := hr132.2.2.2.2 q q2; exact ⟨r.1, r.2.trans w18c⟩)
                 have f : ∀ i, i ≠ 17 → i ≠ 20 → i ≠ 21 → τ132.1 261 i = τ11.1 261 i := fun i q1 q2 q3 => (hr132.2.2.1 i q2 q3).trans ((hr118.2.2.1 i q2 q3).trans ((h3 i q1).trans (hr25.2.2.1 i q2 q3)))
                 have m132 : MX τ11 τ132 := MX_tr h1b (MX_tr hr118.2.1 hr132.2.1)
                 · refine ⟨hz132, MX_tr hr11.2.1 m132, PM_fin (τ := σ) (p := p) hr11.2.2 m132 ((hr132.2.2.1 17 (by decide) (by decide)).trans ((hr118.2.2.1 17 (by decide) (by decide)).trans h2)) (by omega) (f 18 (by decide) (by decide) (by decide)) (f 19 (by decide) (by decide) (by decide)) ?_ hN.1 hN.2.1 (fun q => ?_)⟩
                   · exact (pNum_m hpp).2
                   · obtain ⟨q1, q2, q3, q4⟩ := hN.2.2 q
                     exact ⟨q4, h5r.2, by rw [q2, q3]⟩)
            · refine zx_iloadN dX10_number_142 rfl rfl ?_
              refine zx_goto (tgt := 147) dX10_number_143 (by decide) ?_
              refine zx_iret rfl rfl dX10_number_147 ?_
              rw [hQ]
              refine ⟨congrArg (fun z : Int => (Sum.inl (some (zi z)) : Option zV ⊕ String)) ?_, ?_⟩
              · first
                | (have hz4 : ¬ S.2.1 = 0 := fun q => h4 (hP.2.2.2.1.1.trans q)
                   rw [if_neg (fun q => hz4 (pNum_s q).1)])
                | (have hnd : ¬ (p < n ∧ isDg t p) := fun q => h48 ((uM_dg (k := p) hTt).mpr q)
                   have k2 : (48 ≤ uM σ n (xS t n S.1) ∧ uM σ n (xS t n S.1) ≤ 57) ↔ xK t n S.1 = 2 := by
                     rw [uM_dg hP.1]
                     constructor
                     · rintro ⟨q1, q2⟩; unfold xK; rw [if_neg (by omega)]; exact kb_2.mpr q2
                     · intro q
                       have a := xK_n (t := t) (n := n) (p := S.1) (by omega)
                       exact ⟨a.1, kb_2.mp (a.2.symm.trans q)⟩
                   have hpE : rnE (isDg t) n (xS t n S.1) = p := by rw [h4r]; exact rnE_n hnd
                   have e20 : τ11.1 261 20 = 0 := hr11.2.2.1.2.2.2.1.1.trans z
                   have e21 : τ11.1 261 21 = -1 := hr11.2.2.1.2.2.2.1.2.trans ps1
                   have w18c : τ118.1 261 18 = xS t n S.1 := (hr118.2.2.1 18 (by decide) (by decide)).trans w18t
                   have f20 : τ.1 261 20 = τ25.1 261 20 := h3 20 (by decide)
                   have f21 : τ.1 261 21 = τ25.1 261 21 := h3 21 (by decide)
                   have hN := numF (t := t) (n := n) (S := S) (p := p) (v := v) (lo := a) (hi := b) z ps1 k2 (fun q => by rw [(tok_d q).1]; exact hpE.symm) (fun q => by
                       rw [← hpE]; refine rnE_n (fun r => q (k2.mp ((uM_dg hP.1).mpr r)))) (fun q1 q2 => by
                       have ex : xE t n S.1 = p := (tok_d q1).1.trans hpE
                       have hv := h7.1
                       rw [show (if p - xS t n S.1 < 4 then p - xS t n S.1 else 4) = xE t n S.1 - xS t n S.1 by split <;> omega] at hv
                       exact hv) (by first | exact ⟨fun _ => by omega, fun _ => trivial⟩ | exact ⟨fun q => absurd q (fun r => r), fun _ => by omega⟩) Iff.rfl
                     (fun q => by have r := hr25.2.2.2.1 (Or.inl q); exact ⟨r.1.trans e20, r.2.trans e21⟩) (fun q => by have r := hr25.2.2.2.2 q e20; exact ⟨r.1, r.2.trans w18⟩)
                     (fun q => by have r := hr118.2.2.2.1 (by rw [f20]; exact q); exact ⟨r.1.trans f20, r.2.trans f21⟩) (fun q q2 => by have r := hr118.2.2.2.2 q (f20.trans q2); exact ⟨r.1, r.2.trans w18t⟩)
                     (fun q => hr132.2.2.2.1 q) (fun q q2 => by have r := hr132.2.2.2.2 q q2; exact ⟨r.1, r.2.trans w18c⟩)
                   rw [← hN.1]
                   first
                   | (rw [if_neg h139])
                   | (rw [if_pos h139]; exact (hN.2.2 (hN.1.symm.trans h139)).1))
              first
              | (have hz4 : ¬ S.2.1 = 0 := fun q => h4 (hP.2.2.2.1.1.trans q)
                 rw [pNum_1 (fun q => hz4 q.1), pF_n hz4]
                 exact ⟨hz132, MX_rf _, hP⟩)
              | (have hnd : ¬ (p < n ∧ isDg t p) := fun q => h48 ((uM_dg (k := p) hTt).mpr q)
                 have k2 : (48 ≤ uM σ n (xS t n S.1) ∧ uM σ n (xS t n S.1) ≤ 57) ↔ xK t n S.1 = 2 := by
                   rw [uM_dg hP.1]
                   constructor
                   · rintro ⟨q1, q2⟩; unfold xK; rw [if_neg (by omega)]; exact kb_2.mpr q2
                   · intro q
                     have a := xK_n (t := t) (n := n) (p := S.1) (by omega)
                     exact ⟨a.1, kb_2.mp (a.2.symm.trans q)⟩
                 have hpE : rnE (isDg t) n (xS t n S.1) = p := by rw [h4r]; exact rnE_n hnd
                 have e20 : τ11.1 261 20 = 0 := hr11.2.2.1.2.2.2.1.1.trans z
                 have e21 : τ11.1 261 21 = -1 := hr11.2.2.1.2.2.2.1.2.trans ps1
                 have w18c : τ118.1 261 18 = xS t n S.1 := (hr118.2.2.1 18 (by decide) (by decide)).trans w18t
                 have f20 : τ.1 261 20 = τ25.1 261 20 := h3 20 (by decide)
                 have f21 : τ.1 261 21 = τ25.1 261 21 := h3 21 (by decide)
                 have hN := numF (t := t) (n := n) (S := S) (p := p) (v := v) (lo := a) (hi := b) z ps1 k2 (fun q => by rw [(tok_d q).1]; exact hpE.symm) (fun q => by
                     rw [← hpE]; refine rnE_n (fun r => q (k2.mp ((uM_dg hP.1).mpr r)))) (fun q1 q2 => by
                     have ex : xE t n S.1 = p := (tok_d q1).1.trans hpE
                     have hv := h7.1
                     rw [show (if p - xS t n S.1 < 4 then p - xS t n S.1 else 4) = xE t n S.1 - xS t n S.1 by split <;> omega] at hv
                     exact hv) (by first | exact ⟨fun _ => by omega, fun _ => trivial⟩ | exact ⟨fun q => absurd q (fun r => r), fun _ => by omega⟩) Iff.rfl
                   (fun q => by have r := hr25.2.2.2.1 (Or.inl q); exact ⟨r.1.trans e20, r.2.trans e21⟩) (fun q => by have r := hr25.2.2.2.2 q e20; exact ⟨r.1, r.2.trans w18⟩)
                   (fun q => by have r := hr118.2.2.2.1 (by rw [f20]; exact q); exact ⟨r.1.trans f20, r.2.trans f21⟩) (fun q q2 => by have r := hr118.2.2.2.2 q (f20.trans q2); exact ⟨r.1, r.2.trans w18t⟩)
                   (fun q => hr132.2.2.2.1 q) (fun q q2 => by have r := hr132.2.2.2.2 q q2; exact ⟨r.1, r.2.trans w18c⟩)
                 have f : ∀ i, i ≠ 17 → i ≠ 20 → i ≠ 21 → τ132.1 261 i = τ11.1 261 i := fun i q1 q2 q3 => (hr132.2.2.1 i q2 q3).trans ((hr118.2.2.1 i q2 q3).trans ((h3 i q1).trans (hr25.2.2.1 i q2 q3)))
                 have m132 : MX τ11 τ132 := MX_tr h1b (MX_tr hr118.2.1 hr132.2.1)
                 · refine ⟨hz132, MX_tr hr11.2.1 m132, PM_fin (τ := σ) (p := p) hr11.2.2 m132 ((hr132.2.2.1 17 (by decide) (by decide)).trans ((hr118.2.2.1 17 (by decide) (by decide)).trans h2)) (by omega) (f 18 (by decide) (by decide) (by decide)) (f 19 (by decide) (by decide) (by decide)) ?_ hN.1 hN.2.1 (fun q => ?_)⟩
                   · exact (pNum_m hpp).2
                   · obtain ⟨q1, q2, q3, q4⟩ := hN.2.2 q
                     exact ⟨q4, h5r.2, by rw [q2, q3]⟩)
        · have h48 := zb_n.mp h48
          have hdg := (uM_dg (k := p) hTt).mp h48
          have hdp := hdg.2
          unfold isDg at hdp
          have hut := uM_t hTt hdg.1 (by omega)
          refine zx_aloadN dX10_number_51 rfl rfl ?_
          refine zy_getI fl_RX10_227 rfl dX10_number_52 rfl ?_
          refine zy_top (b := ((p : Nat) : Int)) (h2) ?_
          refine zx_aloadN dX10_number_55 rfl rfl ?_
          refine zy_getI fl_RX10_233 rfl dX10_number_56 rfl ?_
          refine zy_top (b := ((xS t n S.1 : Nat) : Int)) (w18t) ?_
          refine zx_isub dX10_number_59 ?_
          refine zx_iconst dX10_number_60 ?_
          refine zx_icmp_ge (tgt := 83) (by first | exact hz _ _ | assumption | exact zr_b _ | exact zcmp_r _ _ | exact uM_z (by assumption) _ _ | (unfold zr at *; omega)) (by first | exact hz _ _ | assumption | exact zr_b _ | exact zcmp_r _ _ | exact uM_z (by assumption) _ _ | (unfold zr at *; omega)) dX10_number_61 (by decide) (fun h61 => ?_) (fun h61 => ?_)
          · refine zx_iloadN dX10_number_83 rfl rfl ?_
            have h7n : v = dv t (xS t n S.1) (if p + 1 - xS t n S.1 < 4 then p + 1 - xS t n S.1 else 4) ∧ 0 ≤ v ∧ v < 10000 := by
              have q := h7
              rw [if_neg (by omega)] at q
              rw [if_neg (by omega)]; exact q
            refine zy_istoreN [zf 10 261, zi a, zi b, zi v] dX10_number_84 rfl (Nat.le_of_ble_eq_true rfl) (Nat.le_of_ble_eq_true rfl) rfl rfl ?_
            refine zx_aloadN dX10_number_85 rfl rfl ?_
            refine zx_dup rfl dX10_number_86 ?_
            refine zy_getI fl_RX10_227 rfl dX10_number_87 rfl ?_
            refine zy_top (b := ((p : Nat) : Int)) (h2) ?_
            refine zx_iconst dX10_number_90 ?_
            refine zx_iadd dX10_number_91 ?_
            refine zx_putI fl_RX10_227 rfl (Or.inl fp_10_17) dX10_number_92 ?_
            refine zx_goto (tgt := 30) dX10_number_95 (by decide) ?_
            exact ih30 (zput τ 261 17 (((p : Nat) : Int) + 1)) (p + 1) v (zOK_put hz (by first | exact hz _ _ | assumption | exact zr_b _ | exact zcmp_r _ _ | exact uM_z (by assumption) _ _ | (unfold zr at *; omega))) (MX_put (by decide) h1) (MX_put (by decide) h1b) ((zput_s _ _ _ _).trans (by omega)) (fun i hi => (zput_i _ _ _ _ _ hi).trans (h3 i hi)) (by rw [h4r]; exact rnE_y hdg.1 hdg.2) (by omega) (fun i hi => by
        rcases Nat.lt_or_ge i (p - xS t n S.1) with q | q
        · exact h6 i q
        · rw [show xS t n S.1 + i = p by omega]; exact hdg.2) h7n (by omega)
          · refine zx_bipush dX10_number_64 rfl ?_
            refine zx_iloadN dX10_number_66 rfl rfl ?_
            refine zx_imul dX10_number_67 ?_
            refine zx_aloadN dX10_number_68 rfl rfl ?_
            refine zx_aloadN dX10_number_69 rfl rfl ?_
            refine zy_getI fl_RX10_227 rfl dX10_number_70 rfl ?_
            refine zy_top (b := ((p : Nat) : Int)) (h2) ?_
            refine zy_cv [zi ((p : Nat) : Int)] (sX10_byteAt (n := n) (k := p) hfl hz ⟨hn16, hnn⟩ (by first | assumption | omega)) dX10_number_73 (by decide) rfl cw_RX10_230 okX10_byteAt rfl (Nat.le_of_ble_eq_true rfl) ⟨Nat.le_of_ble_eq_true rfl, Nat.le_of_ble_eq_true rfl, Nat.le_of_ble_eq_true rfl, Nat.le_of_ble_eq_true rfl⟩ ?_
            refine zx_iadd dX10_number_76 ?_
            refine zx_bipush dX10_number_77 rfl ?_
            refine zx_isub dX10_number_79 ?_
            refine zx_goto (tgt := 84) dX10_number_80 (by decide) ?_
            refine zy_top (b := (10 * v + t p - 48)) (by rw [hut]) ?_
            have h7n : 10 * v + t p - 48 = dv t (xS t n S.1) (if p + 1 - xS t n S.1 < 4 then p + 1 - xS t n S.1 else 4) ∧ 0 ≤ 10 * v + t p - 48 ∧ 10 * v + t p - 48 < 10000 := by
              have q := h7.1
              rw [if_pos (by omega)] at q
              have e : (if p + 1 - xS t n S.1 < 4 then p + 1 - xS t n S.1 else 4) = (p - xS t n S.1) + 1 := by split <;> omega
              have hd := dv_4 (t := t) (a := xS t n S.1) (k := p - xS t n S.1 + 1) (by omega) (fun i hi => by
                rcases Nat.lt_or_ge i (p - xS t n S.1) with r | r
                · exact h6 i r
                · rw [show xS t n S.1 + i = p by omega]; exact hdg.2)
              have e2 : dv t (xS t n S.1) (p - xS t n S.1 + 1) = 10 * v + t p - 48 := by rw [dv, ← q, show xS t n S.1 + (p - xS t n S.1) = p by omega]
              rw [e, e2]; rw [e2] at hd; exact ⟨rfl, hd⟩
            refine zy_istoreN [zf 10 261, zi a, zi b, zi (10 * v + t p - 48)] dX10_number_84 rfl (Nat.le_of_ble_eq_true rfl) (Nat.le_of_ble_eq_true rfl) rfl rfl ?_
            refine zx_aloadN dX10_number_85 rfl rfl ?_
            refine zx_dup rfl dX10_number_86 ?_
            refine zy_getI fl_RX10_227 rfl dX10_number_87 rfl ?_
            refine zy_top (b := ((p : Nat) : Int)) (h2) ?_
            refine zx_iconst dX10_number_90 ?_
            refine zx_iadd dX10_number_91 ?_
            refine zx_putI fl_RX10_227 rfl (Or.inl fp_10_17) dX10_number_92 ?_
            refine zx_goto (tgt := 30) dX10_number_95 (by decide) ?_
            exact ih30 (zput τ 261 17 (((p : Nat) : Int) + 1)) (p + 1) (10 * v + t p - 48) (zOK_put hz (by first | exact hz _ _ | assumption | exact zr_b _ | exact zcmp_r _ _ | exact uM_z (by assumption) _ _ | (unfold zr at *; omega))) (MX_put (by decide) h1) (MX_put (by decide) h1b) ((zput_s _ _ _ _).trans (by omega)) (fun i hi => (zput_i _ _ _ _ _ hi).trans (h3 i hi)) (by rw [h4r]; exact rnE_y hdg.1 hdg.2) (by omega) (fun i hi => by
        rcases Nat.lt_or_ge i (p - xS t n S.1) with q | q
        · exact h6 i q
        · rw [show xS t n S.1 + i = p by omega]; exact hdg.2) h7n (by omega)
    exact L30 _ τ25 (xS t n S.1) 0 hz25 (MX_tr hr11.2.1 hr25.2.1) hr25.2.1 ((hr25.2.2.1 17 (by decide) (by decide)).trans w17) (fun i hi => rfl) rfl (by omega) (fun i hi => by omega) (by rw [show xS t n S.1 - xS t n S.1 = 0 by omega]; exact ⟨rfl, by omega⟩) (Nat.lt_succ_self _)
  · refine zx_iloadN dX10_number_7 rfl rfl ?_
    refine zx_iret rfl rfl dX10_number_8 ?_
    rw [hQ]
    refine ⟨congrArg (fun z : Int => (Sum.inl (some (zi z)) : Option zV ⊕ String)) ?_, ?_⟩
    · first
      | (have hz4 : ¬ S.2.1 = 0 := fun q => h4 (hP.2.2.2.1.1.trans q)
         rw [if_neg (fun q => hz4 (pNum_s q).1)])
      | (have hnd : ¬ (p < n ∧ isDg t p) := fun q => h48 ((uM_dg (k := p) hTt).mpr q)
         have k2 : (48 ≤ uM σ n (xS t n S.1) ∧ uM σ n (xS t n S.1) ≤ 57) ↔ xK t n S.1 = 2 := by
           rw [uM_dg hP.1]
           constructor
           · rintro ⟨q1, q2⟩; unfold xK; rw [if_neg (by omega)]; exact kb_2.mpr q2
           · intro q
             have a := xK_n (t := t) (n := n) (p := S.1) (by omega)
             exact ⟨a.1, kb_2.mp (a.2.symm.trans q)⟩
         have hpE : rnE (isDg t) n (xS t n S.1) = p := by rw [h4r]; exact rnE_n hnd
         have e20 : τ11.1 261 20 = 0 := hr11.2.2.1.2.2.2.1.1.trans z
         have e21 : τ11.1 261 21 = -1 := hr11.2.2.1.2.2.2.1.2.trans ps1
         have w18c : τ118.1 261 18 = xS t n S.1 := (hr118.2.2.1 18 (by decide) (by decide)).trans w18t
         have f20 : τ.1 261 20 = τ25.1 261 20 := h3 20 (by decide)
         have f21 : τ.1 261 21 = τ25.1 261 21 := h3 21 (by decide)
         have hN := numF (t := t) (n := n) (S := S) (p := p) (v := v) (lo := a) (hi := b) z ps1 k2 (fun q => by rw [(tok_d q).1]; exact hpE.symm) (fun q => by
             rw [← hpE]; refine rnE_n (fun r => q (k2.mp ((uM_dg hP.1).mpr r)))) (fun q1 q2 => by
             have ex : xE t n S.1 = p := (tok_d q1).1.trans hpE
             have hv := h7.1
             rw [show (if p - xS t n S.1 < 4 then p - xS t n S.1 else 4) = xE t n S.1 - xS t n S.1 by split <;> omega] at hv
             exact hv) (by first | exact ⟨fun _ => by omega, fun _ => trivial⟩ | exact ⟨fun q => absurd q (fun r => r), fun _ => by omega⟩) Iff.rfl
           (fun q => by have r := hr25.2.2.2.1 (Or.inl q); exact ⟨r.1.trans e20, r.2.trans e21⟩) (fun q => by have r := hr25.2.2.2.2 q e20; exact ⟨r.1, r.2.trans w18⟩)
           (fun q => by have r := hr118.2.2.2.1 (by rw [f20]; exact q); exact ⟨r.1.trans f20, r.2.trans f21⟩) (fun q q2 => by have r := hr118.2.2.2.2 q (f20.trans q2); exact ⟨r.1, r.2.trans w18t⟩)
           (fun q => hr132.2.2.2.1 q) (fun q q2 => by have r := hr132.2.2.2.2 q q2; exact ⟨r.1, r.2.trans w18c⟩)
         rw [← hN.1]
         first
         | (rw [if_neg h139])
         | (rw [if_pos h139]; exact (hN.2.2 (hN.1.symm.trans h139)).1))
    first
    | (have hz4 : ¬ S.2.1 = 0 := fun q => h4 (hP.2.2.2.1.1.trans q)
       rw [pNum_1 (fun q => hz4 q.1), pF_n hz4]
       exact ⟨hz, MX_rf _, hP⟩)
    | (have hnd : ¬ (p < n ∧ isDg t p) := fun q => h48 ((uM_dg (k := p) hTt).mpr q)
       have k2 : (48 ≤ uM σ n (xS t n S.1) ∧ uM σ n (xS t n S.1) ≤ 57) ↔ xK t n S.1 = 2 := by
         rw [uM_dg hP.1]
         constructor
         · rintro ⟨q1, q2⟩; unfold xK; rw [if_neg (by omega)]; exact kb_2.mpr q2
         · intro q
           have a := xK_n (t := t) (n := n) (p := S.1) (by omega)
           exact ⟨a.1, kb_2.mp (a.2.symm.trans q)⟩
       have hpE : rnE (isDg t) n (xS t n S.1) = p := by rw [h4r]; exact rnE_n hnd
       have e20 : τ11.1 261 20 = 0 := hr11.2.2.1.2.2.2.1.1.trans z
       have e21 : τ11.1 261 21 = -1 := hr11.2.2.1.2.2.2.1.2.trans ps1
       have w18c : τ118.1 261 18 = xS t n S.1 := (hr118.2.2.1 18 (by decide) (by decide)).trans w18t
       have f20 : τ.1 261 20 = τ25.1 261 20 := h3 20 (by decide)
       have f21 : τ.1 261 21 = τ25.1 261 21 := h3 21 (by decide)
       have hN := numF (t := t) (n := n) (S := S) (p := p) (v := v) (lo := a) (hi := b) z ps1 k2 (fun q => by rw [(tok_d q).1]; exact hpE.symm) (fun q => by
           rw [← hpE]; refine rnE_n (fun r => q (k2.mp ((uM_dg hP.1).mpr r)))) (fun q1 q2 => by
           have ex : xE t n S.1 = p := (tok_d q1).1.trans hpE
           have hv := h7.1
           rw [show (if p - xS t n S.1 < 4 then p - xS t n S.1 else 4) = xE t n S.1 - xS t n S.1 by split <;> omega] at hv
           exact hv) (by first | exact ⟨fun _ => by omega, fun _ => trivial⟩ | exact ⟨fun q => absurd q (fun r => r), fun _ => by omega⟩) Iff.rfl
         (fun q => by have r := hr25.2.2.2.1 (Or.inl q); exact ⟨r.1.trans e20, r.2.trans e21⟩) (fun q => by have r := hr25.2.2.2.2 q e20; exact ⟨r.1, r.2.trans w18⟩)
         (fun q => by have r := hr118.2.2.2.1 (by rw [f20]; exact q); exact ⟨r.1.trans f20, r.2.trans f21⟩) (fun q q2 => by have r := hr118.2.2.2.2 q (f20.trans q2); exact ⟨r.1, r.2.trans w18t⟩)
         (fun q => hr132.2.2.2.1 q) (fun q q2 => by have r := hr132.2.2.2.2 q q2; exact ⟨r.1, r.2.trans w18c⟩)
       have f : ∀ i, i ≠ 17 → i ≠ 20 → i ≠ 21 → τ132.1 261 i = τ11.1 261 i := fun i q1 q2 q3 => (hr132.2.2.1 i q2 q3).trans ((hr118.2.2.1 i q2 q3).trans ((h3 i q1).trans (hr25.2.2.1 i q2 q3)))
       have m132 : MX τ11 τ132 := MX_tr h1b (MX_tr hr118.2.1 hr132.2.1)
       · refine ⟨hz, MX_tr hr11.2.1 m132, PM_fin (τ := σ) (p := p) hr11.2.2 m132 ((hr132.2.2.1 17 (by decide) (by decide)).trans ((hr118.2.2.1 17 (by decide) (by decide)).trans h2)) (by omega) (f 18 (by decide) (by decide) (by decide)) (f 19 (by decide) (by decide) (by decide)) ?_ hN.1 hN.2.1 (fun q => ?_)⟩
         · exact (pNum_m hpp).2
         · obtain ⟨q1, q2, q3, q4⟩ := hN.2.2 q
           exact ⟨q4, h5r.2, by rw [q2, q3]⟩)
set_option maxRecDepth 20000 in
set_option maxHeartbeats 2000000 in
theorem sX10_isName {l : Launch} {w : zW} (hfl : l.stackTraces = false) {σ : zS} {t : Nat → Int} {n : Nat} {S : zP}  (hz : zOK σ) (hP : PM t n S σ) : Sp l w mX10_isName 2 0 [zf 10 261] σ (zqv (some (zi (zb (¬ nmv t n S = 0)))) (fun τ => zOK τ ∧ MX σ τ ∧ PN t n (@ite zP (nmv t n S = 0) (Classical.propDecidable _) (pF t n S 1) S) τ)) := by
  obtain ⟨Q, hQ⟩ : ∃ Q : zQ, Q = (zqv (some (zi (zb (¬ nmv t n S = 0)))) (fun τ => zOK τ ∧ MX σ τ ∧ PN t n (@ite zP (nmv t n S = 0) (Classical.propDecidable _) (pF t n S 1) S) τ)) := ⟨_, rfl⟩
  rw [← hQ]
  refine zx_enter hfl (by decide) rfl 1 rfl ?_
  show zX l w mX10_isName (zMQ w 2 0 Q) 0 [zf 10 261, zu] [] 0 σ
  refine zx_aloadN dX10_isName_0 rfl rfl ?_
  refine zy_getI fl_RX10_243 rfl dX10_isName_1 rfl ?_
  refine zx_if_eq (tgt := 9) (by first | exact hz _ _ | assumption | exact zr_b _ | exact zcmp_r _ _ | exact uM_z (by assumption) _ _ | (unfold zr at *; omega)) dX10_isName_4 (by decide) (fun h4 => ?_) (fun h4 => ?_)
  · have z : S.2.1 = 0 := hP.2.2.2.1.1.symm.trans h4
    have hpp := hP.2.2.1
    obtain ⟨ps1, ps2, ps3⟩ := hP.2.2.2.2.2 z
    refine zx_aloadN dX10_isName_9 rfl rfl ?_
    refine zy_cvR [] (sX10_next  hfl hz (by first | assumption | omega)) dX10_isName_10 (by decide) rfl cw_RX10_249 okX10_next rfl (Nat.le_of_ble_eq_true rfl) ⟨Nat.le_of_ble_eq_true rfl, Nat.le_of_ble_eq_true rfl, Nat.le_of_ble_eq_true rfl, Nat.le_of_ble_eq_true rfl⟩ (fun τ10 hr10 => ?_)
    have hz10 : zOK τ10 := hr10.1
    obtain ⟨w17, w18, w19⟩ := hr10.2.2.2 z
    have hwb := hr10.2.2.1.2.2.2.2.1
    have hnx := nmv_x (t := t) z hpp
    refine zy_istoreN [zf 10 261, zi (uM σ n (xS t n (σ.1 261 17).toNat))] dX10_isName_13 rfl (Nat.le_of_ble_eq_true rfl) (Nat.le_of_ble_eq_true rfl) rfl rfl ?_
    refine zx_aloadN dX10_isName_14 rfl rfl ?_
    refine zx_aloadN dX10_isName_15 rfl rfl ?_
    refine zy_getI fl_RX10_236 rfl dX10_isName_16 rfl ?_
    refine zy_top (b := ((xW t n S.1 : Nat) : Int)) (w19) ?_
    refine zx_i2l (by first | exact hz10 _ _ | assumption | exact zr_b _ | exact zcmp_r _ _ | exact uM_z (by assumption) _ _ | (unfold zr at *; omega)) dX10_isName_19 ?_
    refine zx_lconst (a := 1) dX10_isName_20 rfl ?_
    refine zx_ldc2 (a := 6) dX10_isName_21 lk_RX10_260 ?_
    refine zy_cs [zl ((xW t n S.1 : Nat) : Int), zl 1, zl 6] (sX10_in  hfl hz10 (by first | exact hz10 _ _ | assumption | exact zr_b _ | exact zcmp_r _ _ | exact uM_z (by assumption) _ _ | (unfold zr at *; omega)) (by first | exact hz10 _ _ | assumption | exact zr_b _ | exact zcmp_r _ _ | exact uM_z (by assumption) _ _ | (unfold zr at *; omega)) (by first | exact hz10 _ _ | assumption | exact zr_b _ | exact zcmp_r _ _ | exact uM_z (by assumption) _ _ | (unfold zr at *; omega))) dX10_isName_24 cw_RX10_74 okX10_in rfl (Nat.le_of_ble_eq_true rfl) ⟨Nat.le_of_ble_eq_true rfl, Nat.le_of_ble_eq_true rfl, Nat.le_of_ble_eq_true rfl, Nat.le_of_ble_eq_true rfl⟩ ?_
    refine zx_iconst dX10_isName_27 ?_
    refine zy_cvvR [zi (zb (1 ≤ ((xW t n S.1 : Nat) : Int) ∧ ((xW t n S.1 : Nat) : Int) ≤ 6)), zi 1] (sX10_must (A := (1 ≤ ((xW t n S.1 : Nat) : Int) ∧ ((xW t n S.1 : Nat) : Int) ≤ 6)) hfl hz10 hr10.2.2 (by omega)) dX10_isName_28 (by decide) rfl cw_RX10_252 okX10_must rfl (Nat.le_of_ble_eq_true rfl) ⟨Nat.le_of_ble_eq_true rfl, Nat.le_of_ble_eq_true rfl, Nat.le_of_ble_eq_true rfl, Nat.le_of_ble_eq_true rfl⟩ (fun τ28 hr28 => ?_)
    have hz28 : zOK τ28 := hr28.1
    have hq : PN t n (@ite zP (nmv t n S = 0) (Classical.propDecidable _) (pF t n S 1) S) τ28 := by
      have q := hr28.2.2.1
      by_cases c : nmv t n S = 0
      · rw [if_pos c]; rw [if_neg (fun r => (hnx.mpr (by omega)) c)] at q; exact q
      · rw [if_neg c]; rw [if_pos (by have := hnx.mp c; omega)] at q; exact q
    have h28 : τ28.1 261 20 = 0 ↔ ¬ nmv t n S = 0 := by
      rw [hq.1.2.2.2.1.1]
      by_cases c : nmv t n S = 0
      · rw [if_pos c]; exact ⟨fun q => absurd q (pF_nz (by decide)), fun q => absurd c q⟩
      · rw [if_neg c]; exact ⟨fun _ => c, fun _ => z⟩
    refine zx_aloadN dX10_isName_31 rfl rfl ?_
    refine zy_getI fl_RX10_243 rfl dX10_isName_32 rfl ?_
    refine zx_if_ne (tgt := 42) (by first | exact hz28 _ _ | assumption | exact zr_b _ | exact zcmp_r _ _ | exact uM_z (by assumption) _ _ | (unfold zr at *; omega)) dX10_isName_35 (by decide) (fun h35 => ?_) (fun h35 => ?_)
    · refine zx_iconst dX10_isName_42 ?_
      refine zx_iret rfl rfl dX10_isName_43 ?_
      rw [hQ]
      refine ⟨congrArg (fun z : Int => (Sum.inl (some (zi z)) : Option zV ⊕ String)) ?_, ?_⟩
      · first | exact (zb_f (fun q => h4 (hP.2.2.2.1.1.trans (nmv_s q)))).symm | exact (zb_t (h28.mp h35)).symm | exact (zb_f (fun q => h35 (h28.mpr q))).symm
      first
      | exact ⟨hz28, MX_tr hr10.2.1 hr28.2.1, hq⟩
      | (have hz4 : ¬ S.2.1 = 0 := fun q => h4 (hP.2.2.2.1.1.trans q)
         rw [if_pos (nmv_0 (fun q => hz4 q.1)), pF_n hz4]
         exact ⟨hz28, MX_rf _, hP, fun q => absurd q hz4⟩)
    · refine zx_iconst dX10_isName_38 ?_
      refine zx_goto (tgt := 43) dX10_isName_39 (by decide) ?_
      refine zx_iret rfl rfl dX10_isName_43 ?_
      rw [hQ]
      refine ⟨congrArg (fun z : Int => (Sum.inl (some (zi z)) : Option zV ⊕ String)) ?_, ?_⟩
      · first | exact (zb_f (fun q => h4 (hP.2.2.2.1.1.trans (nmv_s q)))).symm | exact (zb_t (h28.mp h35)).symm | exact (zb_f (fun q => h35 (h28.mpr q))).symm
      first
      | exact ⟨hz28, MX_tr hr10.2.1 hr28.2.1, hq⟩
      | (have hz4 : ¬ S.2.1 = 0 := fun q => h4 (hP.2.2.2.1.1.trans q)
         rw [if_pos (nmv_0 (fun q => hz4 q.1)), pF_n hz4]
         exact ⟨hz28, MX_rf _, hP, fun q => absurd q hz4⟩)
  · refine zx_iconst dX10_isName_7 ?_
    refine zx_iret rfl rfl dX10_isName_8 ?_
    rw [hQ]
    refine ⟨congrArg (fun z : Int => (Sum.inl (some (zi z)) : Option zV ⊕ String)) ?_, ?_⟩
    · first | exact (zb_f (fun q => h4 (hP.2.2.2.1.1.trans (nmv_s q)))).symm | exact (zb_t (h28.mp h35)).symm | exact (zb_f (fun q => h35 (h28.mpr q))).symm
    first
    | exact ⟨hz, MX_tr hr10.2.1 hr28.2.1, hq⟩
    | (have hz4 : ¬ S.2.1 = 0 := fun q => h4 (hP.2.2.2.1.1.trans q)
       rw [if_pos (nmv_0 (fun q => hz4 q.1)), pF_n hz4]
       exact ⟨hz, MX_rf _, hP, fun q => absurd q hz4⟩)

