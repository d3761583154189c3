abbrev mJ5_isLatin1_aae02 : zM := (yJ5_isLatin1_aae02, cJ5_isLatin1_aae02, 1, (some .boolean), [])
theorem okJ5_isLatin1_aae02 : zMok mJ5_isLatin1_aae02 0 := ⟨by decide, by decide, by decide +kernel⟩
theorem dJ5_isLatin1_aae02_0 : decode cJ5_isLatin1_aae02 0 = .ok (.getstatic 18, 3) := by decide +kernel
theorem fs_RJ5_18 : Cond.fieldLink "java/lang/AbstractStringBuilder" 18 "java/lang/String" "COMPACT_STRINGS" "Z" ∈ zgood := zmem1 1224 (by decide +kernel) rfl
theorem dJ5_isLatin1_aae02_3 : decode cJ5_isLatin1_aae02 3 = .ok (.ifCond .eq 14, 3) := by decide +kernel
theorem dJ5_isLatin1_aae02_6 : decode cJ5_isLatin1_aae02 6 = .ok (.aload_n 0, 1) := by decide +kernel
theorem dJ5_isLatin1_aae02_7 : decode cJ5_isLatin1_aae02 7 = .ok (.getfield 22, 3) := by decide +kernel
theorem kf_RJ5_22 : kFl RJ5 22 10 1 := ⟨RJ4, TJ4, 4, rfl, by decide, zmem1 1233 (by decide +kernel) rfl⟩
theorem dJ5_isLatin1_aae02_10 : decode cJ5_isLatin1_aae02 10 = .ok (.ifCond .ne 7, 3) := by decide +kernel
theorem dJ5_isLatin1_aae02_13 : decode cJ5_isLatin1_aae02 13 = .ok (.iconst 1, 1) := by decide +kernel
theorem dJ5_isLatin1_aae02_14 : decode cJ5_isLatin1_aae02 14 = .ok (.goto 4, 3) := by decide +kernel
theorem dJ5_isLatin1_aae02_18 : decode cJ5_isLatin1_aae02 18 = .ok (.ireturn, 1) := by decide +kernel
abbrev mJ8_newLength_cabcc : zM := (yJ8_newLength_cabcc, cJ8_newLength_cabcc, 4, (some .int), [])
theorem okJ8_newLength_cabcc : zMok mJ8_newLength_cabcc 3 := ⟨by decide, by decide, by decide +kernel⟩
theorem dJ8_newLength_cabcc_0 : decode cJ8_newLength_cabcc 0 = .ok (.iload_n 0, 1) := by decide +kernel
theorem dJ8_newLength_cabcc_1 : decode cJ8_newLength_cabcc 1 = .ok (.iload_n 1, 1) := by decide +kernel
theorem dJ8_newLength_cabcc_2 : decode cJ8_newLength_cabcc 2 = .ok (.iload_n 2, 1) := by decide +kernel
theorem dJ8_newLength_cabcc_3 : decode cJ8_newLength_cabcc 3 = .ok (.invokestatic 194, 3) := by decide +kernel
theorem mw_RJ8_194 : ∀ x ∈ ([.methodLink RJ8 194 Lib.Math.max.name, .static Lib.Math.max.name, .initialized "java/lang/Math", .code Lib.Math.max.name Lib.Math.max.code 2 (some .int)] : List Cond), x ∈ zgood := zall [1267, 874, 19, 875] (by decide +kernel) (by decide +kernel)
theorem dJ8_newLength_cabcc_6 : decode cJ8_newLength_cabcc 6 = .ok (.iadd, 1) := by decide +kernel
theorem dJ8_newLength_cabcc_7 : decode cJ8_newLength_cabcc 7 = .ok (.istore_n 3, 1) := by decide +kernel
theorem dJ8_newLength_cabcc_8 : decode cJ8_newLength_cabcc 8 = .ok (.iconst 0, 1) := by decide +kernel
theorem dJ8_newLength_cabcc_9 : decode cJ8_newLength_cabcc 9 = .ok (.iload_n 3, 1) := by decide +kernel
theorem dJ8_newLength_cabcc_10 : decode cJ8_newLength_cabcc 10 = .ok (.if_icmp .ge 11, 3) := by decide +kernel
theorem dJ8_newLength_cabcc_13 : decode cJ8_newLength_cabcc 13 = .ok (.iload_n 3, 1) := by decide +kernel
theorem dJ8_newLength_cabcc_14 : decode cJ8_newLength_cabcc 14 = .ok (.ldc 200, 2) := by decide +kernel
theorem ic_RJ8_200 : Cond.constant RJ8 200 (Int32.ofInt 2147483639) ∈ zgood := zmem1 1268 (by decide +kernel) rfl
theorem dJ8_newLength_cabcc_16 : decode cJ8_newLength_cabcc 16 = .ok (.if_icmp .gt 5, 3) := by decide +kernel
theorem dJ8_newLength_cabcc_19 : decode cJ8_newLength_cabcc 19 = .ok (.iload_n 3, 1) := by decide +kernel
theorem dJ8_newLength_cabcc_20 : decode cJ8_newLength_cabcc 20 = .ok (.ireturn, 1) := by decide +kernel
abbrev mJ5_newCapacity_0f7a4 : zM := (yJ5_newCapacity_0f7a4, cJ5_newCapacity_0f7a4, 6, (some .int), [])
theorem okJ5_newCapacity_0f7a4 : zMok mJ5_newCapacity_0f7a4 1 := ⟨by decide, by decide, by decide +kernel⟩
theorem dJ5_newCapacity_0f7a4_0 : decode cJ5_newCapacity_0f7a4 0 = .ok (.aload_n 0, 1) := by decide +kernel
theorem dJ5_newCapacity_0f7a4_1 : decode cJ5_newCapacity_0f7a4 1 = .ok (.getfield 15, 3) := by decide +kernel
theorem kf_RJ5_15 : kFl RJ5 15 10 0 := ⟨RJ4, TJ4, 4, rfl, by decide, zmem1 1232 (by decide +kernel) rfl⟩
theorem dJ5_newCapacity_0f7a4_4 : decode cJ5_newCapacity_0f7a4 4 = .ok (.arraylength, 1) := by decide +kernel
theorem dJ5_newCapacity_0f7a4_5 : decode cJ5_newCapacity_0f7a4 5 = .ok (.istore_n 2, 1) := by decide +kernel
theorem dJ5_newCapacity_0f7a4_6 : decode cJ5_newCapacity_0f7a4 6 = .ok (.iload_n 1, 1) := by decide +kernel
theorem dJ5_newCapacity_0f7a4_7 : decode cJ5_newCapacity_0f7a4 7 = .ok (.aload_n 0, 1) := by decide +kernel
theorem dJ5_newCapacity_0f7a4_8 : decode cJ5_newCapacity_0f7a4 8 = .ok (.getfield 22, 3) := by decide +kernel
theorem dJ5_newCapacity_0f7a4_11 : decode cJ5_newCapacity_0f7a4 11 = .ok (.ishl, 1) := by decide +kernel
theorem dJ5_newCapacity_0f7a4_12 : decode cJ5_newCapacity_0f7a4 12 = .ok (.istore_n 3, 1) := by decide +kernel
theorem dJ5_newCapacity_0f7a4_13 : decode cJ5_newCapacity_0f7a4 13 = .ok (.iload_n 3, 1) := by decide +kernel
theorem dJ5_newCapacity_0f7a4_14 : decode cJ5_newCapacity_0f7a4 14 = .ok (.iload_n 2, 1) := by decide +kernel
theorem dJ5_newCapacity_0f7a4_15 : decode cJ5_newCapacity_0f7a4 15 = .ok (.isub, 1) := by decide +kernel
theorem dJ5_newCapacity_0f7a4_16 : decode cJ5_newCapacity_0f7a4 16 = .ok (.istore 4, 2) := by decide +kernel
theorem dJ5_newCapacity_0f7a4_18 : decode cJ5_newCapacity_0f7a4 18 = .ok (.iload_n 2, 1) := by decide +kernel
theorem dJ5_newCapacity_0f7a4_19 : decode cJ5_newCapacity_0f7a4 19 = .ok (.iload 4, 2) := by decide +kernel
theorem dJ5_newCapacity_0f7a4_21 : decode cJ5_newCapacity_0f7a4 21 = .ok (.iload_n 2, 1) := by decide +kernel
theorem dJ5_newCapacity_0f7a4_22 : decode cJ5_newCapacity_0f7a4 22 = .ok (.iconst 2, 1) := by decide +kernel
theorem dJ5_newCapacity_0f7a4_23 : decode cJ5_newCapacity_0f7a4 23 = .ok (.aload_n 0, 1) := by decide +kernel
theorem dJ5_newCapacity_0f7a4_24 : decode cJ5_newCapacity_0f7a4 24 = .ok (.getfield 22, 3) := by decide +kernel
theorem dJ5_newCapacity_0f7a4_27 : decode cJ5_newCapacity_0f7a4 27 = .ok (.ishl, 1) := by decide +kernel
theorem dJ5_newCapacity_0f7a4_28 : decode cJ5_newCapacity_0f7a4 28 = .ok (.iadd, 1) := by decide +kernel
theorem dJ5_newCapacity_0f7a4_29 : decode cJ5_newCapacity_0f7a4 29 = .ok (.invokestatic 114, 3) := by decide +kernel
theorem cw_RJ5_114 : zCwS RJ5 114 mJ8_newLength_cabcc := zall [1264, 1265, 24, 1266] (by decide +kernel) (by decide +kernel)
theorem dJ5_newCapacity_0f7a4_32 : decode cJ5_newCapacity_0f7a4 32 = .ok (.istore 5, 2) := by decide +kernel
theorem dJ5_newCapacity_0f7a4_34 : decode cJ5_newCapacity_0f7a4 34 = .ok (.iload 5, 2) := by decide +kernel
theorem dJ5_newCapacity_0f7a4_36 : decode cJ5_newCapacity_0f7a4 36 = .ok (.ldc 39, 2) := by decide +kernel
theorem ic_RJ5_39 : Cond.constant RJ5 39 (Int32.ofInt 2147483647) ∈ zgood := zmem1 1272 (by decide +kernel) rfl
theorem dJ5_newCapacity_0f7a4_38 : decode cJ5_newCapacity_0f7a4 38 = .ok (.if_icmp .ne 13, 3) := by decide +kernel
theorem dJ5_newCapacity_0f7a4_51 : decode cJ5_newCapacity_0f7a4 51 = .ok (.iload 5, 2) := by decide +kernel
theorem dJ5_newCapacity_0f7a4_53 : decode cJ5_newCapacity_0f7a4 53 = .ok (.aload_n 0, 1) := by decide +kernel
theorem dJ5_newCapacity_0f7a4_54 : decode cJ5_newCapacity_0f7a4 54 = .ok (.getfield 22, 3) := by decide +kernel
theorem dJ5_newCapacity_0f7a4_57 : decode cJ5_newCapacity_0f7a4 57 = .ok (.ishr, 1) := by decide +kernel
theorem dJ5_newCapacity_0f7a4_58 : decode cJ5_newCapacity_0f7a4 58 = .ok (.ireturn, 1) := by decide +kernel
abbrev mJ7_copyOf_9075b : zM := (yJ7_copyOf_9075b, cJ7_copyOf_9075b, 3, (some (.array .byte)), [])
theorem okJ7_copyOf_9075b : zMok mJ7_copyOf_9075b 2 := ⟨by decide, by decide, by decide +kernel⟩
theorem dJ7_copyOf_9075b_0 : decode cJ7_copyOf_9075b 0 = .ok (.iload_n 1, 1) := by decide +kernel
theorem dJ7_copyOf_9075b_1 : decode cJ7_copyOf_9075b 1 = .ok (.aload_n 0, 1) := by decide +kernel
theorem dJ7_copyOf_9075b_2 : decode cJ7_copyOf_9075b 2 = .ok (.arraylength, 1) := by decide +kernel
theorem dJ7_copyOf_9075b_3 : decode cJ7_copyOf_9075b 3 = .ok (.if_icmp .ne 11, 3) := by decide +kernel
theorem dJ7_copyOf_9075b_14 : decode cJ7_copyOf_9075b 14 = .ok (.iload_n 1, 1) := by decide +kernel
theorem dJ7_copyOf_9075b_15 : decode cJ7_copyOf_9075b 15 = .ok (.newarray .byte, 2) := by decide +kernel
theorem kac : Cond.arrayClass .byte ∈ zgood := zmem1 84 (by decide +kernel) rfl
theorem dJ7_copyOf_9075b_17 : decode cJ7_copyOf_9075b 17 = .ok (.astore_n 2, 1) := by decide +kernel
theorem dJ7_copyOf_9075b_18 : decode cJ7_copyOf_9075b 18 = .ok (.aload_n 0, 1) := by decide +kernel
theorem dJ7_copyOf_9075b_19 : decode cJ7_copyOf_9075b 19 = .ok (.iconst 0, 1) := by decide +kernel
theorem dJ7_copyOf_9075b_20 : decode cJ7_copyOf_9075b 20 = .ok (.aload_n 2, 1) := by decide +kernel
theorem dJ7_copyOf_9075b_21 : decode cJ7_copyOf_9075b 21 = .ok (.iconst 0, 1) := by decide +kernel
theorem dJ7_copyOf_9075b_22 : decode cJ7_copyOf_9075b 22 = .ok (.aload_n 0, 1) := by decide +kernel
theorem dJ7_copyOf_9075b_23 : decode cJ7_copyOf_9075b 23 = .ok (.arraylength, 1) := by decide +kernel
theorem dJ7_copyOf_9075b_24 : decode cJ7_copyOf_9075b 24 = .ok (.iload_n 1, 1) := by decide +kernel
theorem dJ7_copyOf_9075b_25 : decode cJ7_copyOf_9075b 25 = .ok (.invokestatic 304, 3) := by decide +kernel
theorem mw_RJ7_304 : ∀ x ∈ ([.methodLink RJ7 304 Lib.Math.min.name, .static Lib.Math.min.name, .initialized "java/lang/Math", .code Lib.Math.min.name Lib.Math.min.code 2 (some .int)] : List Cond), x ∈ zgood := zall [1283, 782, 19, 783] (by decide +kernel) (by decide +kernel)
theorem dJ7_copyOf_9075b_28 : decode cJ7_copyOf_9075b 28 = .ok (.invokestatic 150, 3) := by decide +kernel
theorem aw_RJ7_150 : ∀ x ∈ ([.methodLink RJ7 150 arraycopyName, .native arraycopyName, .static arraycopyName, .initialized "java/lang/System"] : List Cond), x ∈ zgood := zall [1284, 555, 554, 26] (by decide +kernel) (by decide +kernel)
theorem dJ7_copyOf_9075b_31 : decode cJ7_copyOf_9075b 31 = .ok (.aload_n 2, 1) := by decide +kernel
theorem dJ7_copyOf_9075b_32 : decode cJ7_copyOf_9075b 32 = .ok (.areturn, 1) := by decide +kernel
abbrev mJ5_ensureCapacityInternal_d00df : zM := (yJ5_ensureCapacityInternal_d00df, cJ5_ensureCapacityInternal_d00df, 3, none, [])
theorem okJ5_ensureCapacityInternal_d00df : zMok mJ5_ensureCapacityInternal_d00df 1 := ⟨by decide, by decide, by decide +kernel⟩
theorem dJ5_ensureCapacityInternal_d00df_0 : decode cJ5_ensureCapacityInternal_d00df 0 = .ok (.aload_n 0, 1) := by decide +kernel
theorem dJ5_ensureCapacityInternal_d00df_1 : decode cJ5_ensureCapacityInternal_d00df 1 = .ok (.getfield 15, 3) := by decide +kernel
theorem dJ5_ensureCapacityInternal_d00df_4 : decode cJ5_ensureCapacityInternal_d00df 4 = .ok (.arraylength, 1) := by decide +kernel
theorem dJ5_ensureCapacityInternal_d00df_5 : decode cJ5_ensureCapacityInternal_d00df 5 = .ok (.aload_n 0, 1) := by decide +kernel
theorem dJ5_ensureCapacityInternal_d00df_6 : decode cJ5_ensureCapacityInternal_d00df 6 = .ok (.getfield 22, 3) := by decide +kernel
theorem dJ5_ensureCapacityInternal_d00df_9 : decode cJ5_ensureCapacityInternal_d00df 9 = .ok (.ishr, 1) := by decide +kernel
theorem dJ5_ensureCapacityInternal_d00df_10 : decode cJ5_ensureCapacityInternal_d00df 10 = .ok (.istore_n 2, 1) := by decide +kernel
theorem dJ5_ensureCapacityInternal_d00df_11 : decode cJ5_ensureCapacityInternal_d00df 11 = .ok (.iload_n 1, 1) := by decide +kernel
theorem dJ5_ensureCapacityInternal_d00df_12 : decode cJ5_ensureCapacityInternal_d00df 12 = .ok (.iload_n 2, 1) := by decide +kernel
theorem dJ5_ensureCapacityInternal_d00df_13 : decode cJ5_ensureCapacityInternal_d00df 13 = .ok (.isub, 1) := by decide +kernel
theorem dJ5_ensureCapacityInternal_d00df_14 : decode cJ5_ensureCapacityInternal_d00df 14 = .ok (.ifCond .le 24, 3) := by decide +kernel
theorem dJ5_ensureCapacityInternal_d00df_38 : decode cJ5_ensureCapacityInternal_d00df 38 = .ok (.return_, 1) := by decide +kernel
theorem dJ5_ensureCapacityInternal_d00df_17 : decode cJ5_ensureCapacityInternal_d00df 17 = .ok (.aload_n 0, 1) := by decide +kernel
theorem dJ5_ensureCapacityInternal_d00df_18 : decode cJ5_ensureCapacityInternal_d00df 18 = .ok (.aload_n 0, 1) := by decide +kernel
theorem dJ5_ensureCapacityInternal_d00df_19 : decode cJ5_ensureCapacityInternal_d00df 19 = .ok (.getfield 15, 3) := by decide +kernel
theorem dJ5_ensureCapacityInternal_d00df_22 : decode cJ5_ensureCapacityInternal_d00df 22 = .ok (.aload_n 0, 1) := by decide +kernel
theorem dJ5_ensureCapacityInternal_d00df_23 : decode cJ5_ensureCapacityInternal_d00df 23 = .ok (.iload_n 1, 1) := by decide +kernel
theorem dJ5_ensureCapacityInternal_d00df_24 : decode cJ5_ensureCapacityInternal_d00df 24 = .ok (.invokevirtual 104, 3) := by decide +kernel
theorem ck_RJ5_104 : kCwU RJ5 104 yJ5_newCapacity_0f7a4 mJ5_newCapacity_0f7a4 := ⟨⟨cJ5_newCapacity_0f7a4, 6, (some .int), List.mem_of_getElem? (i := 1263) (by decide +kernel), by decide +kernel⟩, zall2 [1260, 1451, 1262, 1262] (by decide +kernel) (by decide +kernel), zall [20, 1263] (by decide +kernel) (by decide +kernel), Or.inr ⟨rfl, List.mem_of_getElem? (i := 1261) (by decide +kernel), by decide +kernel⟩⟩
theorem dJ5_ensureCapacityInternal_d00df_27 : decode cJ5_ensureCapacityInternal_d00df 27 = .ok (.aload_n 0, 1) := by decide +kernel
theorem dJ5_ensureCapacityInternal_d00df_28 : decode cJ5_ensureCapacityInternal_d00df 28 = .ok (.getfield 22, 3) := by decide +kernel
theorem dJ5_ensureCapacityInternal_d00df_31 : decode cJ5_ensureCapacityInternal_d00df 31 = .ok (.ishl, 1) := by decide +kernel
theorem dJ5_ensureCapacityInternal_d00df_32 : decode cJ5_ensureCapacityInternal_d00df 32 = .ok (.invokestatic 108, 3) := by decide +kernel
theorem cw_RJ5_108 : zCwS RJ5 108 mJ7_copyOf_9075b := zall [1273, 1274, 25, 1275] (by decide +kernel) (by decide +kernel)
theorem dJ5_ensureCapacityInternal_d00df_35 : decode cJ5_ensureCapacityInternal_d00df 35 = .ok (.putfield 15, 3) := by decide +kernel
abbrev mJ1_canEncode_fc78d : zM := (yJ1_canEncode_fc78d, cJ1_canEncode_fc78d, 1, (some .boolean), [])
theorem okJ1_canEncode_fc78d : zMok mJ1_canEncode_fc78d 1 := ⟨by decide, by decide, by decide +kernel⟩
theorem dJ1_canEncode_fc78d_0 : decode cJ1_canEncode_fc78d 0 = .ok (.iload_n 0, 1) := by decide +kernel
theorem dJ1_canEncode_fc78d_1 : decode cJ1_canEncode_fc78d 1 = .ok (.sipush 255, 3) := by decide +kernel
theorem dJ1_canEncode_fc78d_4 : decode cJ1_canEncode_fc78d 4 = .ok (.if_icmp .gt 7, 3) := by decide +kernel
theorem dJ1_canEncode_fc78d_7 : decode cJ1_canEncode_fc78d 7 = .ok (.iconst 1, 1) := by decide +kernel
theorem dJ1_canEncode_fc78d_8 : decode cJ1_canEncode_fc78d 8 = .ok (.goto 4, 3) := by decide +kernel
theorem dJ1_canEncode_fc78d_12 : decode cJ1_canEncode_fc78d 12 = .ok (.ireturn, 1) := by decide +kernel
/-! ===== the JDK's StringBuilder, of Latin-1 letters ===== -/
theorem zshl_0 {a : Int} (h : zr a) : zshl a 0 = a := by
  unfold zshl
  rw [show Int32.ofInt 0 = (0 : Int32) from rfl, sb_shl0, z_toInt h]
theorem zshr_0 {a : Int} (h : zr a) : zshr a 0 = a := by
  unfold zshr
  rw [show Int32.ofInt 0 = (0 : Int32) from rfl, sb_shr0, z_toInt h]
theorem knq_ob {E : List va_E} {i j t c n : Nat} {fs : List Value} {f : (Nat → Int32) ⊕ (Nat → Int64) ⊕ (Nat → UInt32) ⊕ (Nat → UInt64) ⊕ (Nat → Option Nat)} (h1 : E[i]? = some (.inr (t, fs))) (h2 : E[j]? = some (.inl (c, n, f))) : i ≠ j := fun q => by
  rw [q, h2] at h1
  cases h1
theorem knq_bo {E : List va_E} {i j t c n : Nat} {fs : List Value} {f : (Nat → Int32) ⊕ (Nat → Int64) ⊕ (Nat → UInt32) ⊕ (Nat → UInt64) ⊕ (Nat → Option Nat)} (h1 : E[i]? = some (.inl (c, n, f))) (h2 : E[j]? = some (.inr (t, fs))) : i ≠ j := fun q => knq_ob h2 h1 q.symm
theorem kne {E : List va_E} {k : Nat} {x : va_E} {P : Prop} (h : E[k]? = some x) (q : E = []) : P := by
  rw [q] at h
  cases h
theorem kSp_mono {l : Launch} {w : zW} {m : zM} {h n sl : Nat} {as : List zV} {E : List va_E} {r : Option zV} {P P' : List va_E → Prop} (hsp : kSp l w m h n sl as E r P) (hP : ∀ E', P E' → P' E') : kSp l w m h n sl as E r P' := by
  intro p e ha hc hk s mid args below hf happ hp hK
  obtain ⟨k, o, h1, h2, h3, ⟨h4, ⟨E', q1, q2, q3⟩, h6⟩, h5⟩ := hsp p e ha hc hk s mid args below hf happ hp hK
  exact ⟨k, o, h1, h2, h3, ⟨h4, ⟨E', hP E' q1, q2, q3⟩, h6⟩, h5⟩
section KB
variable {l : Launch} {w : zW} {m : zM} {M : zMo} {ini : Bool} {pc kc ks : Nat} {ls st : List zV} {E : List va_E}
theorem kk_null (hd : decode m.2.1 pc = .ok (.aconst_null, 1)) (kk : zK l w m M ini (pc + 1) ls (.inr (.inr .null) :: st) kc ks E) : zK l w m M ini pc ls st kc ks E := by
  intro p e s mid args below meth c C hnK H locs Ls hR hS hl hol hos hsz
  exact lv_null C.1 C.2.1 hd (kk p e s mid args below meth c C hnK H locs Ls hR hS hl hol (zok_c trivial hos) hsz)
theorem kk_wide {ks' : Nat} (h : ks ≤ ks') (kk : zK l w m M ini pc ls st kc ks' E) : zK l w m M ini pc ls st kc ks E := by
  intro p e s mid args below meth c C hnK H locs Ls hR hS hl hol hos hsz
  exact W.widen (Nat.le_refl _) h (kk p e s mid args below meth c C hnK H locs Ls hR hS hl hol hos hsz)
theorem kk_cast {ix k n : Nat} {f : Nat → Int32} {a : Addr} (ha : a = zB w + k) (he : E[k]? = some (.inl (zA w 1, n, .inl f))) (hw : Cond.classLink m.1.cls ix "[B" ∈ zgood) (hd : decode m.2.1 pc = .ok (.checkcast ix, 3)) (kk : zK l w m M ini (pc + 3) ls (zV0 a :: st) kc ks E) : zK l w m M ini pc ls (zV0 a :: st) kc ks E := by
  subst ha
  intro p e s mid args below meth c C hnK H locs Ls hR hS hl hol hos hsz
  have hB : s.vm.findClass "[B" = some (zA w 1) := (C.2.2.2.2.2.2.2.2.1.2.2.1.2 1 (zA w 1, .byte) rfl).2
  exact va_castA C.1 C.2.1 C.2.2.2.2.2.1 (C.2.2.2.2.2.2.1 _ hw) hR k (zLs_at he) hB hd (kk p e s mid args below meth c C hnK H locs Ls hR hS hl hol hos hsz)
theorem kk_clone {ix k n : Nat} {f : Nat → Int32} {a : Addr} (ha : a = zB w + k) (he : E[k]? = some (.inl (zA w 1, n, .inl f))) (hby : kBy f) (hE0 : E = [] → kc = 0) (hw : ∀ z ∈ ([.methodLink m.1.cls ix ⟨"[B", "clone", "()Ljava/lang/Object;"⟩, .sameMethod "[B" "java/lang/Object" "clone" "()Ljava/lang/Object;", .native ⟨"java/lang/Object", "clone", "()Ljava/lang/Object;"⟩, .instanceMethod ⟨"java/lang/Object", "clone", "()Ljava/lang/Object;"⟩, .selects "[B" ⟨"[B", "clone", "()Ljava/lang/Object;"⟩ ⟨"java/lang/Object", "clone", "()Ljava/lang/Object;"⟩, .castable "[B" "java/lang/Cloneable"] : List Cond), zok2 z) (hst : (st.map zcat).sum ≤ 8) (hM : 1 ≤ M.1.frames ∧ 22 ≤ M.1.locals) (hcells : kc + 1 ≤ M.1.cells) (hslots : ks + n ≤ M.1.slots) (hd : decode m.2.1 pc = .ok (.invokevirtual ix, 3)) (kk : ∀ E', E'.length = E.length + 1 → E'[E.length]? = some (.inl (zA w 1, n, .inl f)) → (∀ j, j < E.length → E'[j]? = E[j]?) → zK l w m M ini (pc + 3) ls (zV0 (zB w + E.length) :: st) (kc + 1) (ks + n) E') : zK l w m M ini pc ls (zV0 a :: st) kc ks E := by
  subst ha
  intro p e s mid args below meth c C hnK H locs Ls hR hS hl hol hos hsz
  obtain ⟨hx, hb, hml, hr, htab, hown, hts, hlk, hE, hfl⟩ := id C
  have hB : s.vm.findClass "[B" = some (zA w 1) := (hE.2.2.1.2 1 (zA w 1, .byte) rfl).2
  obtain ⟨g1, g2, g3⟩ := kpush E (.inl (zA w 1, n, .inl f))
  have hcs : va_Nw (.castable "[B" "java/lang/Cloneable") s := va_tabs rfl rfl (zw2 C (hw (.castable "[B" "java/lang/Cloneable") (by simp)))
  refine zk_pre (fun hle => ?_)
  have hHs := zk_size hR hS hE0 hsz hle
  have hSH : va_S (zAd w) H H locs := ⟨Nat.le_refl _, fun _ _ _ => rfl, hS.2.2⟩
  refine va_clone hx hb (hml.trans hl.1.symm) hown (zw2 C (hw _ (by simp))) (zw2 C (hw _ (by simp))) (zw2 C (hw _ (by simp))) (zw2 C (hw _ (by simp))) (zw2 C (hw _ (by simp))) hcs hE.2.2.1 hR (zLs_D hnK.2.1 E) hSH (fun q hq => ⟨by omega, Or.inl hnK.2.1⟩) k 1 (zLs_at he) (show (ztys w)[1]? = some (zA w 1, .byte) from rfl) hB (fun i v hv => ?_) hM.1 (by have := zsum_c w hst; have := hM.2; omega) hcells hslots hd (fun q H1 hK1 hP1 hD1 hS1 => ?_)
  · have hi : i < n := by
      have := (Array.getElem?_eq_some_iff.mp hv).1
      have e : (vp_cell (zA w 1) (n, .inl f)).slots.size = n := arrV_size _ _ _
      omega
    have e : (vp_cell (zA w 1) (n, .inl f)).slots[i]? = some (.int (f i)) := arrV_read _ _ hi
    rw [e] at hv
    cases hv
    exact hby i
  · refine zk_pre (fun hle1 => ?_)
    have hq1 : H1[q]? = some (vp_cell (zA w 1) (n, .inl f)) := hP1 E.length (q, .inl (zA w 1, n, .inl f)) (by rw [List.getElem?_append_right (by simp [zLs]), show E.length - (zLs w E).length = 0 by simp [zLs]]; rfl)
    have hql : q < H1.size := (Array.getElem?_eq_some_iff.mp hq1).1
    have hqA : zAd w q := hD1.2 E.length (q, .inl (zA w 1, n, .inl f)) (by rw [List.getElem?_append_right (by simp [zLs]), show E.length - (zLs w E).length = 0 by simp [zLs]]; rfl)
    have hqq : q = zB w + E.length := by
      by_cases h : q < zB w + E.length
      · exfalso
        obtain ⟨x, hx2⟩ : ∃ x, E[q - zB w]? = some x := ⟨_, List.getElem?_eq_getElem (by have := hqA.1; omega)⟩
        have e1 : (zLs w E ++ [(q, (.inl (zA w 1, n, .inl f) : va_E))])[q - zB w]? = some (zB w + (q - zB w), x) := by
          rw [List.getElem?_append_left (by have := hqA.1; simp [zLs]; omega)]
          exact zLs_at hx2
        have := hD1.1 (q - zB w) E.length _ (q, .inl (zA w 1, n, .inl f)) e1 (by rw [List.getElem?_append_right (by simp [zLs]), show E.length - (zLs w E).length = 0 by simp [zLs]]; rfl) (by show zB w + (q - zB w) = q; have := hqA.1; omega)
        have := hqA.1
        omega
      · omega
    subst hqq
    have hP2 : zR w (E ++ [.inl (zA w 1, n, .inl f)]) H1 := by
      show va_P _ _ _ _
      rw [zLs_push]
      exact hP1
    exact kk _ g1 g2 g3 p e s mid args below meth c C hnK H1 locs Ls hP2 ⟨Nat.le_trans hS.1 hS1.1, fun x h1 h2 => (hS1.2.1 x (Nat.lt_of_lt_of_le h1 hS.1) h2).trans (hS.2.1 x h1 h2), hS1.2.2⟩ hl hol (zok_c trivial (zok_t hos)) (by rw [g1]; omega)
end KB
/-! the builder: her object's place a, her array's place b, the array's length m, the letters L -/
def kcp (q m : Nat) : Nat := if q ≤ m then m else m + max (q - m) (m + 2)
def kn (q m : Nat) : Nat := if q ≤ m then 0 else 1
def kbx (E : List va_E) (b q m : Nat) : Nat := if q ≤ m then b else E.length
theorem kcp_ge (q m : Nat) : q ≤ kcp q m := by unfold kcp; split <;> omega
theorem kcp_le {q m : Nat} (hq : q ≤ 600) (hm : m ≤ 1300) : kcp q m ≤ 1300 := by unfold kcp; split <;> omega
theorem kn_le (q m : Nat) : kn q m ≤ 1 := by unfold kn; split <;> omega
theorem kbx_ne {E : List va_E} {b q m j : Nat} (h1 : j < E.length) (h2 : j ≠ b) : j ≠ kbx E b q m := by unfold kbx; split <;> omega
def BS (w : zW) (E : List va_E) (a b m : Nat) (L : List Int) : Prop := E[a]? = some (.inr (10, [.ref (zB w + b), .int (Int32.ofInt 0), .int (Int32.ofInt 0), .int (Int32.ofInt ((L.length : Nat) : Int))])) ∧ ∃ f, E[b]? = some (.inl (zA w 1, m, .inl f)) ∧ kBy f ∧ (∀ j, j < L.length → f j = Int32.ofInt (L.getD j 0)) ∧ L.length ≤ m
theorem BS_app {w : zW} {E : List va_E} {a b m : Nat} {L K : List Int} {f : Nat → Int32} {k : Int} (h1 : E[a]? = some (.inr (10, [.ref (zB w + b), .int (Int32.ofInt 0), .int (Int32.ofInt 0), .int (Int32.ofInt k)]))) (hk : k = ((L.length + K.length : Nat) : Int)) (h2 : E[b]? = some (.inl (zA w 1, m, .inl f))) (hby : kBy f) (hf : ∀ j, j < L.length → f j = Int32.ofInt (L.getD j 0)) (hf2 : ∀ j, j < K.length → f (L.length + j) = Int32.ofInt (K.getD j 0)) (hm : L.length + K.length ≤ m) : BS w E a b m (L ++ K) := by
  subst hk
  refine ⟨by rw [List.length_append]; exact h1, f, h2, hby, fun j hj => ?_, by rw [List.length_append]; exact hm⟩
  rw [List.length_append] at hj
  by_cases c : j < L.length
  · rw [hf j c, List.getD_eq_getElem?_getD, List.getD_eq_getElem?_getD, List.getElem?_append_left c]
  · have := hf2 (j - L.length) (by omega)
    rw [show L.length + (j - L.length) = j by omega] at this
    rw [this, List.getD_eq_getElem?_getD, List.getD_eq_getElem?_getD, List.getElem?_append_right (by omega)]
theorem cpy_lo {f g : Nat → Int32} {d n j : Nat} (h : j < d) : va_cpy f g 0 d n j = g j := by unfold va_cpy; rw [if_neg (by omega)]
theorem cpy_hi {f g : Nat → Int32} {d n j : Nat} (h : j < n) : va_cpy f g 0 d n (d + j) = f j := by
  unfold va_cpy
  rw [if_pos (by omega)]
  congr 1
  omega
theorem cpy_0 {f g : Nat → Int32} {n j : Nat} (h : j < n) : va_cpy f g 0 0 n j = f j := by
  have := cpy_hi (f := f) (g := g) (d := 0) h
  rwa [Nat.zero_add] at this
theorem upd_s (f : Nat → Int32) (k : Nat) (x : Int32) : upd f k x k = x := if_pos rfl
theorem upd_n (f : Nat → Int32) {k j : Nat} (x : Int32) (h : j ≠ k) : upd f k x j = f j := if_neg h

set_option maxRecDepth 20000 in
set_option maxHeartbeats 2000000 in
theorem kIsL {l : Launch} {w : zW} (hfl : l.stackTraces = false) {E : List va_E} {a b m : Nat} {L : List Int} (hB : BS w E a b m L) : kSp l w mJ5_isLatin1_aae02 0 0 0 [zV0 (zB w + a)] E (some (zi 1)) (fun E' => E' = E) := by
  refine kk_enter hfl (by decide) rfl false (fun q => absurd q (by decide)) 0 rfl ?_
  show zK l w mJ5_isLatin1_aae02 _ false 0 [zV0 (zB w + a)] [] 0 0 E
  obtain ⟨hA, f, hF, hby, hf, hnm⟩ := id hB
  refine kk_compact fs_RJ5_18 dJ5_isLatin1_aae02_0 ?_
  refine kk_if_eq (tgt := 17) (by first | assumption | (unfold zr at *; omega)) dJ5_isLatin1_aae02_3 (by decide) (fun h3 => ?_) (fun h3 => ?_)
  · exact absurd h3 (by decide)
  · refine kk_aloadN dJ5_isLatin1_aae02_6 rfl rfl ?_
    refine kk_getf (v := zi 0) rfl kf_RJ5_22 hA rfl trivial dJ5_isLatin1_aae02_7 ?_
    refine kk_if_ne (tgt := 17) (by first | assumption | (unfold zr at *; omega)) dJ5_isLatin1_aae02_10 (by decide) (fun h10 => ?_) (fun h10 => ?_)
    · exact absurd h10 (by decide)
    · refine kk_iconst dJ5_isLatin1_aae02_13 ?_
      refine kk_goto (tgt := 18) dJ5_isLatin1_aae02_14 (by decide) ?_
      refine kk_iret rfl rfl dJ5_isLatin1_aae02_18 ?_ ?_ ?_ ?_
      · rfl
      · omega
      · omega
      · omega
set_option maxRecDepth 20000 in
set_option maxHeartbeats 2000000 in
theorem kNewLen {l : Launch} {w : zW} (hfl : l.stackTraces = false) {E : List va_E} {x y z : Int} (hx : 0 ≤ x ∧ x ≤ 60000) (hy : 0 ≤ y ∧ y ≤ 60000) (hz : 0 < z ∧ z ≤ 60002) : kSp l w mJ8_newLength_cabcc 2 0 0 [zi x, zi y, zi z] E (some (zi (x + (max y z)))) (fun E' => E' = E) := by
  refine kk_enter hfl (by decide) rfl false (fun q => absurd q (by decide)) 1 rfl ?_
  show zK l w mJ8_newLength_cabcc _ false 0 [zi x, zi y, zi z, zu] [] 0 0 E
  refine kk_iloadN dJ8_newLength_cabcc_0 rfl rfl ?_
  refine kk_iloadN dJ8_newLength_cabcc_1 rfl rfl ?_
  refine kk_iloadN dJ8_newLength_cabcc_2 rfl rfl ?_
  refine kk_max (by first | assumption | (unfold zr at *; omega)) (by first | assumption | (unfold zr at *; omega)) mw_RJ8_194 (Nat.le_of_ble_eq_true rfl) ⟨Nat.le_of_ble_eq_true rfl, Nat.le_of_ble_eq_true rfl⟩ ⟨by show _ ≤ _; simp only [kM, kRm]; omega, by show _ ≤ _; simp only [kM, kRm]; omega⟩ dJ8_newLength_cabcc_3 ?_
  refine kk_iadd dJ8_newLength_cabcc_6 ?_
  refine kj_istoreN [zi x, zi y, zi z, zi (x + (max y z))] dJ8_newLength_cabcc_7 rfl (Nat.le_of_ble_eq_true rfl) (Nat.le_of_ble_eq_true rfl) rfl rfl ?_
  refine kk_iconst dJ8_newLength_cabcc_8 ?_
  refine kk_iloadN dJ8_newLength_cabcc_9 rfl rfl ?_
  refine kk_icmp_ge (tgt := 21) (by first | assumption | (unfold zr at *; omega)) (by first | assumption | (unfold zr at *; omega)) dJ8_newLength_cabcc_10 (by decide) (fun h10 => ?_) (fun h10 => ?_)
  · exfalso; omega
  · refine kk_iloadN dJ8_newLength_cabcc_13 rfl rfl ?_
    refine kk_ldcI dJ8_newLength_cabcc_14 ic_RJ8_200 ?_
    refine kk_icmp_gt (tgt := 21) (by first | assumption | (unfold zr at *; omega)) (by first | assumption | (unfold zr at *; omega)) dJ8_newLength_cabcc_16 (by decide) (fun h16 => ?_) (fun h16 => ?_)
    · exfalso; omega
    · refine kk_iloadN dJ8_newLength_cabcc_19 rfl rfl ?_
      refine kk_iret rfl rfl dJ8_newLength_cabcc_20 ?_ ?_ ?_ ?_
      · rfl
      · omega
      · omega
      · omega
set_option maxRecDepth 20000 in
set_option maxHeartbeats 2000000 in
theorem kNewCap {l : Launch} {w : zW} (hfl : l.stackTraces = false) {E : List va_E} {a b m : Nat} {L : List Int} {q : Nat} (hB : BS w E a b m L) (hq : m < q ∧ q ≤ 60000) : kSp l w mJ5_newCapacity_0f7a4 3 0 0 [zV0 (zB w + a), zi ((q : Nat) : Int)] E (some (zi ((m + max (q - m) (m + 2) : Nat) : Int))) (fun E' => E' = E) := by
  refine kk_enter hfl (by decide) rfl false (fun q => absurd q (by decide)) 4 rfl ?_
  show zK l w mJ5_newCapacity_0f7a4 _ false 0 [zV0 (zB w + a), zi ((q : Nat) : Int), zu, zu, zu, zu] [] 0 0 E
  obtain ⟨hA, f, hF, hby, hf, hnm⟩ := id hB
  refine kk_aloadN dJ5_newCapacity_0f7a4_0 rfl rfl ?_
  refine kk_getf (v := zV0 (zB w + b)) rfl kf_RJ5_15 hA rfl trivial dJ5_newCapacity_0f7a4_1 ?_
  refine kk_alen (q := 1) rfl hF rfl dJ5_newCapacity_0f7a4_4 ?_
  refine kj_istoreN [zV0 (zB w + a), zi ((q : Nat) : Int), zi ((m : Nat) : Int), zu, zu, zu] dJ5_newCapacity_0f7a4_5 rfl (Nat.le_of_ble_eq_true rfl) (Nat.le_of_ble_eq_true rfl) rfl rfl ?_
  refine kk_iloadN dJ5_newCapacity_0f7a4_6 rfl rfl ?_
  refine kk_aloadN dJ5_newCapacity_0f7a4_7 rfl rfl ?_
  refine kk_getf (v := zi 0) rfl kf_RJ5_22 hA rfl trivial dJ5_newCapacity_0f7a4_8 ?_
  refine kk_ishl dJ5_newCapacity_0f7a4_11 ?_
  refine kj_top (b := ((q : Nat) : Int)) (zshl_0 (by first | assumption | (unfold zr at *; omega))) ?_
  refine kj_istoreN [zV0 (zB w + a), zi ((q : Nat) : Int), zi ((m : Nat) : Int), zi ((q : Nat) : Int), zu, zu] dJ5_newCapacity_0f7a4_12 rfl (Nat.le_of_ble_eq_true rfl) (Nat.le_of_ble_eq_true rfl) rfl rfl ?_
  refine kk_iloadN dJ5_newCapacity_0f7a4_13 rfl rfl ?_
  refine kk_iloadN dJ5_newCapacity_0f7a4_14 rfl rfl ?_
  refine kk_isub dJ5_newCapacity_0f7a4_15 ?_
  refine kj_istore [zV0 (zB w + a), zi ((q : Nat) : Int), zi ((m : Nat) : Int), zi ((q : Nat) : Int), zi (((q : Nat) : Int) - ((m : Nat) : Int)), zu] dJ5_newCapacity_0f7a4_16 (Nat.le_of_ble_eq_true rfl) (Nat.le_of_ble_eq_true rfl) rfl rfl ?_
  refine kk_iloadN dJ5_newCapacity_0f7a4_18 rfl rfl ?_
  refine kk_iload dJ5_newCapacity_0f7a4_19 rfl ?_
  refine kk_iloadN dJ5_newCapacity_0f7a4_21 rfl rfl ?_
  refine kk_iconst dJ5_newCapacity_0f7a4_22 ?_
  refine kk_aloadN dJ5_newCapacity_0f7a4_23 rfl rfl ?_
  refine kk_getf (v := zi 0) rfl kf_RJ5_22 hA rfl trivial dJ5_newCapacity_0f7a4_24 ?_
  refine kk_ishl dJ5_newCapacity_0f7a4_27 ?_
  refine kj_top (b := 2) (zshl_0 (by first | assumption | (unfold zr at *; omega))) ?_
  refine kk_iadd dJ5_newCapacity_0f7a4_28 ?_
  refine kk_callS [zi ((m : Nat) : Int), zi (((q : Nat) : Int) - ((m : Nat) : Int)), zi (((m : Nat) : Int) + 2)] (kNewLen hfl (by first | assumption | omega) (by first | assumption | omega) (by first | assumption | omega)) dJ5_newCapacity_0f7a4_29 cw_RJ5_114 okJ8_newLength_cabcc rfl (Nat.le_of_ble_eq_true rfl) ⟨Nat.le_of_ble_eq_true rfl, Nat.le_of_ble_eq_true rfl, by show _ ≤ _; simp only [kM, kRm]; omega, by show _ ≤ _; simp only [kM, kRm]; omega⟩ (fun _ => rfl) (fun x q => by cases q; trivial) (fun E29 q29 _ => ?_)
  rw [q29]
  refine kj_istore [zV0 (zB w + a), zi ((q : Nat) : Int), zi ((m : Nat) : Int), zi ((q : Nat) : Int), zi (((q : Nat) : Int) - ((m : Nat) : Int)), zi (((m : Nat) : Int) + (max (((q : Nat) : Int) - ((m : Nat) : Int)) (((m : Nat) : Int) + 2)))] dJ5_newCapacity_0f7a4_32 (Nat.le_of_ble_eq_true rfl) (Nat.le_of_ble_eq_true rfl) rfl rfl ?_
  refine kk_iload dJ5_newCapacity_0f7a4_34 rfl ?_
  refine kk_ldcI dJ5_newCapacity_0f7a4_36 ic_RJ5_39 ?_
  refine kk_icmp_ne (tgt := 51) (by first | assumption | (unfold zr at *; omega)) (by first | assumption | (unfold zr at *; omega)) dJ5_newCapacity_0f7a4_38 (by decide) (fun h38 => ?_) (fun h38 => ?_)
  · refine kk_iload dJ5_newCapacity_0f7a4_51 rfl ?_
    refine kk_aloadN dJ5_newCapacity_0f7a4_53 rfl rfl ?_
    refine kk_getf (v := zi 0) rfl kf_RJ5_22 hA rfl trivial dJ5_newCapacity_0f7a4_54 ?_
    refine kk_ishr dJ5_newCapacity_0f7a4_57 ?_
    refine kj_top (b := ((m : Nat) : Int) + (max (((q : Nat) : Int) - ((m : Nat) : Int)) (((m : Nat) : Int) + 2))) (zshr_0 (by first | assumption | (unfold zr at *; omega))) ?_
    refine kj_top (b := ((m + max (q - m) (m + 2) : Nat) : Int)) (by omega) ?_
    refine kk_iret rfl rfl dJ5_newCapacity_0f7a4_58 ?_ ?_ ?_ ?_
    · rfl
    · omega
    · omega
    · omega
  · exfalso; omega
set_option maxRecDepth 20000 in
set_option maxHeartbeats 2000000 in
theorem kCopyOf {l : Launch} {w : zW} (hfl : l.stackTraces = false) {E : List va_E} {b m : Nat} {f : Nat → Int32} {q : Nat} (hF : E[b]? = some (.inl (zA w 1, m, .inl f))) (hby : kBy f) (hq : m < q ∧ q ≤ 60000) : kSp l w mJ7_copyOf_9075b 3 1 q [zV0 (zB w + b), zi ((q : Nat) : Int)] E (some (zV0 (zB w + E.length))) (fun E' => E'[E.length]? = some (.inl (zA w 1, q, .inl (va_cpy f (fun _ => 0) 0 0 m))) ∧ ∀ j, j < E.length → E'[j]? = E[j]?) := by
  refine kk_enter hfl (by decide) rfl false (fun q => absurd q (by decide)) 1 rfl ?_
  show zK l w mJ7_copyOf_9075b _ false 0 [zV0 (zB w + b), zi ((q : Nat) : Int), zu] [] 0 0 E
  have hb1 := (List.getElem?_eq_some_iff.mp hF).1
  refine kk_iloadN dJ7_copyOf_9075b_0 rfl rfl ?_
  refine kk_aloadN dJ7_copyOf_9075b_1 rfl rfl ?_
  refine kk_alen (q := 1) rfl hF rfl dJ7_copyOf_9075b_2 ?_
  refine kk_icmp_ne (tgt := 14) (by first | assumption | (unfold zr at *; omega)) (by first | assumption | (unfold zr at *; omega)) dJ7_copyOf_9075b_3 (by decide) (fun h3 => ?_) (fun h3 => ?_)
  · refine kk_iloadN dJ7_copyOf_9075b_14 rfl rfl ?_
    refine kk_newb (n := q) (by omega) (by omega) rfl (fun _ => rfl) kac (by show _ ≤ _; simp only [kM, kRm]; omega) (by show _ ≤ _; simp only [kM, kRm]; omega) dJ7_copyOf_9075b_15 (fun E15 z15 e15 k15 => ?_)
    have f15_0 := (k15 _ (List.getElem?_eq_some_iff.mp hF).1).trans hF
    refine kk_astoreN dJ7_copyOf_9075b_17 rfl (Nat.le_of_ble_eq_true rfl) (Nat.le_of_ble_eq_true rfl) rfl ?_
    refine kk_aloadN dJ7_copyOf_9075b_18 rfl rfl ?_
    refine kk_iconst dJ7_copyOf_9075b_19 ?_
    refine kk_aloadN dJ7_copyOf_9075b_20 rfl rfl ?_
    refine kk_iconst dJ7_copyOf_9075b_21 ?_
    refine kk_aloadN dJ7_copyOf_9075b_22 rfl rfl ?_
    refine kk_alen (q := 1) rfl f15_0 rfl dJ7_copyOf_9075b_23 ?_
    refine kk_iloadN dJ7_copyOf_9075b_24 rfl rfl ?_
    refine kk_min (by first | assumption | (unfold zr at *; omega)) (by first | assumption | (unfold zr at *; omega)) mw_RJ7_304 (Nat.le_of_ble_eq_true rfl) ⟨Nat.le_of_ble_eq_true rfl, Nat.le_of_ble_eq_true rfl⟩ ⟨by show _ ≤ _; simp only [kM, kRm]; omega, by show _ ≤ _; simp only [kM, kRm]; omega⟩ dJ7_copyOf_9075b_25 ?_
    refine kk_copy (n := m) (dp := 0) rfl rfl f15_0 e15 (by omega) (by omega) (by omega) (by omega) (by omega) hby aw_RJ7_150 (Nat.le_of_ble_eq_true rfl) ⟨Nat.le_of_ble_eq_true rfl, Nat.le_trans nfw_34 (Nat.le_of_ble_eq_true rfl)⟩ dJ7_copyOf_9075b_28 (fun E28 z28 e28 k28 => ?_)
    have f28_0 := (k28 _ (by omega)).trans f15_0
    refine kk_aloadN dJ7_copyOf_9075b_31 rfl rfl ?_
    refine kk_aret rfl (by first | exact Or.inl ⟨_, rfl⟩ | exact Or.inr ⟨_, rfl⟩) dJ7_copyOf_9075b_32 ?_ ?_ ?_ ?_
    · exact ⟨e28, fun j hj => (k28 j (by omega)).trans (k15 j hj)⟩
    · omega
    · omega
    · omega
  · exfalso; omega
set_option maxRecDepth 20000 in
set_option maxHeartbeats 2000000 in
theorem kEns0 {l : Launch} {w : zW} (hfl : l.stackTraces = false) {E : List va_E} {a b m : Nat} {L : List Int} {q : Nat} (hB : BS w E a b m L) (hq : q ≤ m ∧ m ≤ 60000) : kSp l w mJ5_ensureCapacityInternal_d00df 4 0 m [zV0 (zB w + a), zi ((q : Nat) : Int)] E (none) (fun E' => E' = E) := by
  refine kk_enter hfl (by decide) rfl false (fun q => absurd q (by decide)) 1 rfl ?_
  show zK l w mJ5_ensureCapacityInternal_d00df _ false 0 [zV0 (zB w + a), zi ((q : Nat) : Int), zu] [] 0 0 E
  obtain ⟨hA, f, hF, hby, hf, hnm⟩ := id hB
  refine kk_aloadN dJ5_ensureCapacityInternal_d00df_0 rfl rfl ?_
  refine kk_getf (v := zV0 (zB w + b)) rfl kf_RJ5_15 hA rfl trivial dJ5_ensureCapacityInternal_d00df_1 ?_
  refine kk_alen (q := 1) rfl hF rfl dJ5_ensureCapacityInternal_d00df_4 ?_
  refine kk_aloadN dJ5_ensureCapacityInternal_d00df_5 rfl rfl ?_
  refine kk_getf (v := zi 0) rfl kf_RJ5_22 hA rfl trivial dJ5_ensureCapacityInternal_d00df_6 ?_
  refine kk_ishr dJ5_ensureCapacityInternal_d00df_9 ?_
  refine kj_top (b := ((m : Nat) : Int)) (zshr_0 (by first | assumption | (unfold zr at *; omega))) ?_
  refine kj_istoreN [zV0 (zB w + a), zi ((q : Nat) : Int), zi ((m : Nat) : Int)] dJ5_ensureCapacityInternal_d00df_10 rfl (Nat.le_of_ble_eq_true rfl) (Nat.le_of_ble_eq_true rfl) rfl rfl ?_
  refine kk_iloadN dJ5_ensureCapacityInternal_d00df_11 rfl rfl ?_
  refine kk_iloadN dJ5_ensureCapacityInternal_d00df_12 rfl rfl ?_
  refine kk_isub dJ5_ensureCapacityInternal_d00df_13 ?_
  refine kk_if_le (tgt := 38) (by first | assumption | (unfold zr at *; omega)) dJ5_ensureCapacityInternal_d00df_14 (by decide) (fun h14 => ?_) (fun h14 => ?_)
  · refine kk_vret rfl dJ5_ensureCapacityInternal_d00df_38 ?_ ?_ ?_ ?_
    · rfl
    · omega
    · omega
    · omega
  · exfalso; omega
set_option maxRecDepth 20000 in
set_option maxHeartbeats 2000000 in
theorem kEns1 {l : Launch} {w : zW} (hfl : l.stackTraces = false) {E : List va_E} {a b m : Nat} {L : List Int} {q : Nat} (hB : BS w E a b m L) (hq : m < q ∧ q ≤ 20000) : kSp l w mJ5_ensureCapacityInternal_d00df 4 1 (m + max (q - m) (m + 2)) [zV0 (zB w + a), zi ((q : Nat) : Int)] E (none) (fun E' => BS w E' a E.length (m + max (q - m) (m + 2)) L ∧ ∀ j, j < E.length → j ≠ a → E'[j]? = E[j]?) := by
  refine kk_enter hfl (by decide) rfl false (fun q => absurd q (by decide)) 1 rfl ?_
  show zK l w mJ5_ensureCapacityInternal_d00df _ false 0 [zV0 (zB w + a), zi ((q : Nat) : Int), zu] [] 0 0 E
  obtain ⟨hA, f, hF, hby, hf, hnm⟩ := id hB
  refine kk_aloadN dJ5_ensureCapacityInternal_d00df_0 rfl rfl ?_
  refine kk_getf (v := zV0 (zB w + b)) rfl kf_RJ5_15 hA rfl trivial dJ5_ensureCapacityInternal_d00df_1 ?_
  refine kk_alen (q := 1) rfl hF rfl dJ5_ensureCapacityInternal_d00df_4 ?_
  refine kk_aloadN dJ5_ensureCapacityInternal_d00df_5 rfl rfl ?_
  refine kk_getf (v := zi 0) rfl kf_RJ5_22 hA rfl trivial dJ5_ensureCapacityInternal_d00df_6 ?_
  refine kk_ishr dJ5_ensureCapacityInternal_d00df_9 ?_
  refine kj_top (b := ((m : Nat) : Int)) (zshr_0 (by first | assumption | (unfold zr at *; omega))) ?_
  refine kj_istoreN [zV0 (zB w + a), zi ((q : Nat) : Int), zi ((m : Nat) : Int)] dJ5_ensureCapacityInternal_d00df_10 rfl (Nat.le_of_ble_eq_true rfl) (Nat.le_of_ble_eq_true rfl) rfl rfl ?_
  refine kk_iloadN dJ5_ensureCapacityInternal_d00df_11 rfl rfl ?_
  refine kk_iloadN dJ5_ensureCapacityInternal_d00df_12 rfl rfl ?_
  refine kk_isub dJ5_ensureCapacityInternal_d00df_13 ?_
  refine kk_if_le (tgt := 38) (by first | assumption | (unfold zr at *; omega)) dJ5_ensureCapacityInternal_d00df_14 (by decide) (fun h14 => ?_) (fun h14 => ?_)
  · exfalso; omega
  · refine kk_aloadN dJ5_ensureCapacityInternal_d00df_17 rfl rfl ?_
    refine kk_aloadN dJ5_ensureCapacityInternal_d00df_18 rfl rfl ?_
    refine kk_getf (v := zV0 (zB w + b)) rfl kf_RJ5_15 hA rfl trivial dJ5_ensureCapacityInternal_d00df_19 ?_
    refine kk_aloadN dJ5_ensureCapacityInternal_d00df_22 rfl rfl ?_
    refine kk_iloadN dJ5_ensureCapacityInternal_d00df_23 rfl rfl ?_
    refine kk_callU [zi ((q : Nat) : Int)] (kNewCap hfl (by first | assumption | omega) (by first | assumption | omega)) rfl hA dJ5_ensureCapacityInternal_d00df_24 ck_RJ5_104 okJ5_newCapacity_0f7a4 rfl (Nat.le_of_ble_eq_true rfl) ⟨Nat.le_of_ble_eq_true rfl, Nat.le_of_ble_eq_true rfl, by show _ ≤ _; simp only [kM, kRm]; omega, by show _ ≤ _; simp only [kM, kRm]; omega⟩ (fun _ => rfl) (fun x q => by cases q; trivial) (fun E24 q24 _ => ?_)
    rw [q24]
    refine kk_aloadN dJ5_ensureCapacityInternal_d00df_27 rfl rfl ?_
    refine kk_getf (v := zi 0) rfl kf_RJ5_22 hA rfl trivial dJ5_ensureCapacityInternal_d00df_28 ?_
    refine kk_ishl dJ5_ensureCapacityInternal_d00df_31 ?_
    refine kj_top (b := ((m + max (q - m) (m + 2) : Nat) : Int)) (zshl_0 (by first | assumption | (unfold zr at *; omega))) ?_
    refine kk_callS [zV0 (zB w + b), zi ((m + max (q - m) (m + 2) : Nat) : Int)] (kCopyOf hfl (by first | assumption | omega) (by first | assumption | omega) (by first | assumption | omega)) dJ5_ensureCapacityInternal_d00df_32 cw_RJ5_108 okJ7_copyOf_9075b rfl (Nat.le_of_ble_eq_true rfl) ⟨Nat.le_of_ble_eq_true rfl, Nat.le_of_ble_eq_true rfl, by show _ ≤ _; simp only [kM, kRm]; omega, by show _ ≤ _; simp only [kM, kRm]; omega⟩ (fun _ => rfl) (fun x q => by cases q; trivial) (fun E32 q32 z32 => ?_)
    obtain ⟨e32, k32⟩ := q32
    have f32_0 := (k32 _ (List.getElem?_eq_some_iff.mp hA).1).trans hA
    have f32_1 := (k32 _ (List.getElem?_eq_some_iff.mp hF).1).trans hF
    refine kk_putf (ty := .array .byte) rfl kf_RJ5_15 f32_0 (Nat.le_of_ble_eq_true rfl) (fun Cn T N q => by cases q; exact ⟨rfl, Or.inl rfl⟩) rfl rfl dJ5_ensureCapacityInternal_d00df_35 (fun E35 z35 e35 k35 => ?_)
    have f35_1 := (k35 _ (knq_bo f32_1 f32_0)).trans f32_1
    have f35_2 := (k35 _ (knq_bo e32 f32_0)).trans e32
    refine kk_vret rfl dJ5_ensureCapacityInternal_d00df_38 ?_ ?_ ?_ ?_
    · exact ⟨⟨e35, _, f35_2, kBy_c hby kBy_0, fun j hj => (cpy_0 (by omega)).trans (hf j hj), by omega⟩, fun j h1 h2 => (k35 j h2).trans (k32 j h1)⟩
    · omega
    · omega
    · omega
theorem kEns {l : Launch} {w : zW} (hfl : l.stackTraces = false) {E : List va_E} {a b m : Nat} {L : List Int} {q : Nat} (hB : BS w E a b m L) (hq : q ≤ 20000 ∧ m ≤ 20000) : kSp l w mJ5_ensureCapacityInternal_d00df 4 (kn q m) (kcp q m) [zV0 (zB w + a), zi ((q : Nat) : Int)] E none (fun E' => BS w E' a (kbx E b q m) (kcp q m) L ∧ ∀ j, j < E.length → j ≠ a → E'[j]? = E[j]?) := by
  by_cases c : q ≤ m
  · rw [show kn q m = 0 from if_pos c, show kcp q m = m from if_pos c, show kbx E b q m = b from if_pos c]
    exact kSp_mono (kEns0 hfl hB ⟨c, by omega⟩) (fun E' h => by rw [h]; exact ⟨hB, fun _ _ _ => rfl⟩)
  · rw [show kn q m = 1 from if_neg c, show kcp q m = m + max (q - m) (m + 2) from if_neg c, show kbx E b q m = E.length from if_neg c]
    exact kEns1 hfl hB ⟨by omega, by omega⟩

set_option maxRecDepth 20000 in
set_option maxHeartbeats 2000000 in
theorem kCan {l : Launch} {w : zW} (hfl : l.stackTraces = false) {E : List va_E} {c : Int} (hc : 0 ≤ c ∧ c < 128) : kSp l w mJ1_canEncode_fc78d 0 0 0 [zi c] E (some (zi 1)) (fun E' => E' = E) := by
  refine kk_enter hfl (by decide) rfl false (fun q => absurd q (by decide)) 0 rfl ?_
  show zK l w mJ1_canEncode_fc78d _ false 0 [zi c] [] 0 0 E
  refine kk_iloadN dJ1_canEncode_fc78d_0 rfl rfl ?_
  refine kk_sipush dJ1_canEncode_fc78d_1 rfl ?_
  refine kk_icmp_gt (tgt := 11) (by first | assumption | (unfold zr at *; omega)) (by first | assumption | (unfold zr at *; omega)) dJ1_canEncode_fc78d_4 (by decide) (fun h4 => ?_) (fun h4 => ?_)
  · exfalso; omega
  · refine kk_iconst dJ1_canEncode_fc78d_7 ?_
    refine kk_goto (tgt := 12) dJ1_canEncode_fc78d_8 (by decide) ?_
    refine kk_iret rfl rfl dJ1_canEncode_fc78d_12 ?_ ?_ ?_ ?_
    · rfl
    · omega
    · omega
    · omega

