abbrev mX9_init : zM := (yX9_init, cX9_init, 1, none, [])
theorem okX9_init : zMok mX9_init 0 := ⟨by decide, by decide, by decide +kernel⟩
theorem dX9_init_0 : decode cX9_init 0 = .ok (.aload_n 0, 1) := by decide +kernel
theorem ob_RX9_3 : ∀ x ∈ ([.methodLink RX9 3 Lib.objectInit, .instanceMethod Lib.objectInit, .code Lib.objectInit ⟨#[0xb1]⟩ 1 none] : List Cond), x ∈ zgood := zall [52, 53, 54] (by decide +kernel) (by decide +kernel)
theorem dX9_init_1 : decode cX9_init 1 = .ok (.invokespecial 3, 3) := by decide +kernel
theorem dX9_init_4 : decode cX9_init 4 = .ok (.aload_n 0, 1) := by decide +kernel
theorem kl_RX9_9 : Cond.classLink RX9 9 RX6 ∈ zgood := zmem1 55 (by decide +kernel) rfl
theorem it_X6 : Cond.instantiable RX6 7 ∈ zgood := zmem1 56 (by decide +kernel) rfl
theorem iz_X6 : Cond.initialized RX6 ∈ zgood := zmem1 32 (by decide +kernel) rfl
theorem df_X6 : ∀ ty : Nat → FieldType, (∀ k, k < 7 → parseFieldDescriptor (TX6 k).2.2.1 = some (ty k)) → ∀ j, j < 7 → defaultValue (ty j) = vp_V [Value.null, Value.int 0, Value.int 0, Value.int 0, Value.int 0, Value.int 0, Value.int 0] j := fun ty hty j hj => by
  rw [Option.some.inj ((hty j hj).symm.trans (tyX6_ok j hj))]
  exact (by decide +kernel : ∀ j, j < 7 → defaultValue (tyX6 j) = vp_V [Value.null, Value.int 0, Value.int 0, Value.int 0, Value.int 0, Value.int 0, Value.int 0] j) j hj
theorem dX9_init_5 : decode cX9_init 5 = .ok (.new 9, 3) := by decide +kernel
theorem dX9_init_8 : decode cX9_init 8 = .ok (.dup, 1) := by decide +kernel
theorem dX9_init_9 : decode cX9_init 9 = .ok (.invokespecial 11, 3) := by decide +kernel
theorem cn_RX9_11 : (∃ host, (RX9, 11, yX6_init, host) ∈ znest) ∧ ∀ x ∈ ([.instanceMethod yX6_init, .initialized yX6_init.cls, .code yX6_init cX6_init 1 none] : List Cond), x ∈ zgood := ⟨⟨_, List.mem_of_getElem? (i := 0) rfl⟩, zall [58, 32, 59] (by decide +kernel) (by decide +kernel)⟩
theorem dX9_init_12 : decode cX9_init 12 = .ok (.putfield 12, 3) := by decide +kernel
theorem dX9_init_15 : decode cX9_init 15 = .ok (.aload_n 0, 1) := by decide +kernel
theorem kl_RX9_16 : Cond.classLink RX9 16 RX4 ∈ zgood := zmem1 85 (by decide +kernel) rfl
theorem it_X4 : Cond.instantiable RX4 1 ∈ zgood := zmem1 86 (by decide +kernel) rfl
theorem iz_X4 : Cond.initialized RX4 ∈ zgood := zmem1 33 (by decide +kernel) rfl
theorem df_X4 : ∀ ty : Nat → FieldType, (∀ k, k < 1 → parseFieldDescriptor (TX4 k).2.2.1 = some (ty k)) → ∀ j, j < 1 → defaultValue (ty j) = vp_V [Value.null] j := fun ty hty j hj => by
  rw [Option.some.inj ((hty j hj).symm.trans (tyX4_ok j hj))]
  exact (by decide +kernel : ∀ j, j < 1 → defaultValue (tyX4 j) = vp_V [Value.null] j) j hj
theorem dX9_init_16 : decode cX9_init 16 = .ok (.new 16, 3) := by decide +kernel
theorem dX9_init_19 : decode cX9_init 19 = .ok (.dup, 1) := by decide +kernel
theorem dX9_init_20 : decode cX9_init 20 = .ok (.invokespecial 18, 3) := by decide +kernel
theorem cn_RX9_18 : (∃ host, (RX9, 18, yX4_init, host) ∈ znest) ∧ ∀ x ∈ ([.instanceMethod yX4_init, .initialized yX4_init.cls, .code yX4_init cX4_init 1 none] : List Cond), x ∈ zgood := ⟨⟨_, List.mem_of_getElem? (i := 1) rfl⟩, zall [88, 33, 89] (by decide +kernel) (by decide +kernel)⟩
theorem dX9_init_23 : decode cX9_init 23 = .ok (.putfield 19, 3) := by decide +kernel
theorem dX9_init_26 : decode cX9_init 26 = .ok (.aload_n 0, 1) := by decide +kernel
theorem kl_RX9_23 : Cond.classLink RX9 23 RX3 ∈ zgood := zmem1 221 (by decide +kernel) rfl
theorem it_X3 : Cond.instantiable RX3 6 ∈ zgood := zmem1 222 (by decide +kernel) rfl
theorem iz_X3 : Cond.initialized RX3 ∈ zgood := zmem1 37 (by decide +kernel) rfl
theorem df_X3 : ∀ ty : Nat → FieldType, (∀ k, k < 6 → parseFieldDescriptor (TX3 k).2.2.1 = some (ty k)) → ∀ j, j < 6 → defaultValue (ty j) = vp_V [Value.int 0, Value.null, Value.null, Value.null, Value.null, Value.null] j := fun ty hty j hj => by
  rw [Option.some.inj ((hty j hj).symm.trans (tyX3_ok j hj))]
  exact (by decide +kernel : ∀ j, j < 6 → defaultValue (tyX3 j) = vp_V [Value.int 0, Value.null, Value.null, Value.null, Value.null, Value.null] j) j hj
theorem dX9_init_27 : decode cX9_init 27 = .ok (.new 23, 3) := by decide +kernel
theorem dX9_init_30 : decode cX9_init 30 = .ok (.dup, 1) := by decide +kernel
theorem dX9_init_31 : decode cX9_init 31 = .ok (.invokespecial 25, 3) := by decide +kernel
theorem cn_RX9_25 : (∃ host, (RX9, 25, yX3_init, host) ∈ znest) ∧ ∀ x ∈ ([.instanceMethod yX3_init, .initialized yX3_init.cls, .code yX3_init cX3_init 1 none] : List Cond), x ∈ zgood := ⟨⟨_, List.mem_of_getElem? (i := 5) rfl⟩, zall [224, 37, 225] (by decide +kernel) (by decide +kernel)⟩
theorem fl_RX9_26 : zFl RX9 26 9 2 := ⟨RX9, TX9, 9, rfl, by decide, zmem1 563 (by decide +kernel) rfl, rfl⟩
theorem dX9_init_34 : decode cX9_init 34 = .ok (.putfield 26, 3) := by decide +kernel
theorem dX9_init_37 : decode cX9_init 37 = .ok (.aload_n 0, 1) := by decide +kernel
theorem kl_RX9_30 : Cond.classLink RX9 30 RX1 ∈ zgood := zmem1 246 (by decide +kernel) rfl
theorem dX9_init_38 : decode cX9_init 38 = .ok (.new 30, 3) := by decide +kernel
theorem dX9_init_41 : decode cX9_init 41 = .ok (.dup, 1) := by decide +kernel
theorem dX9_init_42 : decode cX9_init 42 = .ok (.invokespecial 32, 3) := by decide +kernel
theorem cn_RX9_32 : (∃ host, (RX9, 32, yX1_init, host) ∈ znest) ∧ ∀ x ∈ ([.instanceMethod yX1_init, .initialized yX1_init.cls, .code yX1_init cX1_init 1 none] : List Cond), x ∈ zgood := ⟨⟨_, List.mem_of_getElem? (i := 6) rfl⟩, zall [94, 34, 95] (by decide +kernel) (by decide +kernel)⟩
theorem dX9_init_45 : decode cX9_init 45 = .ok (.putfield 33, 3) := by decide +kernel
theorem dX9_init_48 : decode cX9_init 48 = .ok (.aload_n 0, 1) := by decide +kernel
theorem dX9_init_49 : decode cX9_init 49 = .ok (.new 30, 3) := by decide +kernel
theorem dX9_init_52 : decode cX9_init 52 = .ok (.dup, 1) := by decide +kernel
theorem dX9_init_53 : decode cX9_init 53 = .ok (.invokespecial 32, 3) := by decide +kernel
theorem dX9_init_56 : decode cX9_init 56 = .ok (.putfield 37, 3) := by decide +kernel
theorem dX9_init_59 : decode cX9_init 59 = .ok (.aload_n 0, 1) := by decide +kernel
theorem dX9_init_60 : decode cX9_init 60 = .ok (.iconst 0, 1) := by decide +kernel
theorem dX9_init_61 : decode cX9_init 61 = .ok (.putfield 40, 3) := by decide +kernel
theorem dX9_init_64 : decode cX9_init 64 = .ok (.aload_n 0, 1) := by decide +kernel
theorem kl_RX9_44 : Cond.classLink RX9 44 RX5 ∈ zgood := zmem1 248 (by decide +kernel) rfl
theorem it_X5 : Cond.instantiable RX5 3 ∈ zgood := zmem1 249 (by decide +kernel) rfl
theorem iz_X5 : Cond.initialized RX5 ∈ zgood := zmem1 38 (by decide +kernel) rfl
theorem df_X5 : ∀ ty : Nat → FieldType, (∀ k, k < 3 → parseFieldDescriptor (TX5 k).2.2.1 = some (ty k)) → ∀ j, j < 3 → defaultValue (ty j) = vp_V [Value.null, Value.int 0, Value.int 0] j := fun ty hty j hj => by
  rw [Option.some.inj ((hty j hj).symm.trans (tyX5_ok j hj))]
  exact (by decide +kernel : ∀ j, j < 3 → defaultValue (tyX5 j) = vp_V [Value.null, Value.int 0, Value.int 0] j) j hj
theorem dX9_init_65 : decode cX9_init 65 = .ok (.new 44, 3) := by decide +kernel
theorem dX9_init_68 : decode cX9_init 68 = .ok (.dup, 1) := by decide +kernel
theorem dX9_init_69 : decode cX9_init 69 = .ok (.invokespecial 46, 3) := by decide +kernel
theorem ci_RX9_46 : ∀ x ∈ ([.methodLink RX9 46 yX5_init, .instanceMethod yX5_init, .initialized yX5_init.cls, .code yX5_init cX5_init 2 none] : List Cond), x ∈ zgood := zall [250, 251, 38, 252] (by decide +kernel) (by decide +kernel)
theorem dX9_init_72 : decode cX9_init 72 = .ok (.putfield 47, 3) := by decide +kernel
theorem dX9_init_75 : decode cX9_init 75 = .ok (.aload_n 0, 1) := by decide +kernel
theorem kl_RX9_51 : Cond.classLink RX9 51 RX7 ∈ zgood := zmem1 268 (by decide +kernel) rfl
theorem it_X7 : Cond.instantiable RX7 7 ∈ zgood := zmem1 269 (by decide +kernel) rfl
theorem iz_X7 : Cond.initialized RX7 ∈ zgood := zmem1 39 (by decide +kernel) rfl
theorem df_X7 : ∀ ty : Nat → FieldType, (∀ k, k < 7 → parseFieldDescriptor (TX7 k).2.2.1 = some (ty k)) → ∀ j, j < 7 → defaultValue (ty j) = vp_V [Value.null, Value.null, Value.null, Value.null, Value.null, Value.int 0, Value.null] j := fun ty hty j hj => by
  rw [Option.some.inj ((hty j hj).symm.trans (tyX7_ok j hj))]
  exact (by decide +kernel : ∀ j, j < 7 → defaultValue (tyX7 j) = vp_V [Value.null, Value.null, Value.null, Value.null, Value.null, Value.int 0, Value.null] j) j hj
theorem dX9_init_76 : decode cX9_init 76 = .ok (.new 51, 3) := by decide +kernel
theorem dX9_init_79 : decode cX9_init 79 = .ok (.dup, 1) := by decide +kernel
theorem dX9_init_80 : decode cX9_init 80 = .ok (.invokespecial 53, 3) := by decide +kernel
theorem cn_RX9_53 : (∃ host, (RX9, 53, yX7_init, host) ∈ znest) ∧ ∀ x ∈ ([.instanceMethod yX7_init, .initialized yX7_init.cls, .code yX7_init cX7_init 1 none] : List Cond), x ∈ zgood := ⟨⟨_, List.mem_of_getElem? (i := 8) rfl⟩, zall [271, 39, 272] (by decide +kernel) (by decide +kernel)⟩
theorem dX9_init_83 : decode cX9_init 83 = .ok (.putfield 54, 3) := by decide +kernel
theorem dX9_init_86 : decode cX9_init 86 = .ok (.aload_n 0, 1) := by decide +kernel
theorem kl_RX9_58 : Cond.classLink RX9 58 RX8 ∈ zgood := zmem1 299 (by decide +kernel) rfl
theorem it_X8 : Cond.instantiable RX8 2 ∈ zgood := zmem1 300 (by decide +kernel) rfl
theorem iz_X8 : Cond.initialized RX8 ∈ zgood := zmem1 40 (by decide +kernel) rfl
theorem df_X8 : ∀ ty : Nat → FieldType, (∀ k, k < 2 → parseFieldDescriptor (TX8 k).2.2.1 = some (ty k)) → ∀ j, j < 2 → defaultValue (ty j) = vp_V [Value.null, Value.int 0] j := fun ty hty j hj => by
  rw [Option.some.inj ((hty j hj).symm.trans (tyX8_ok j hj))]
  exact (by decide +kernel : ∀ j, j < 2 → defaultValue (tyX8 j) = vp_V [Value.null, Value.int 0] j) j hj
theorem dX9_init_87 : decode cX9_init 87 = .ok (.new 58, 3) := by decide +kernel
theorem dX9_init_90 : decode cX9_init 90 = .ok (.dup, 1) := by decide +kernel
theorem dX9_init_91 : decode cX9_init 91 = .ok (.invokespecial 60, 3) := by decide +kernel
theorem cn_RX9_60 : (∃ host, (RX9, 60, yX8_init, host) ∈ znest) ∧ ∀ x ∈ ([.instanceMethod yX8_init, .initialized yX8_init.cls, .code yX8_init cX8_init 1 none] : List Cond), x ∈ zgood := ⟨⟨_, List.mem_of_getElem? (i := 9) rfl⟩, zall [302, 40, 303] (by decide +kernel) (by decide +kernel)⟩
theorem fl_RX9_61 : zFl RX9 61 9 8 := ⟨RX9, TX9, 9, rfl, by decide, zmem1 569 (by decide +kernel) rfl, rfl⟩
theorem dX9_init_94 : decode cX9_init 94 = .ok (.putfield 61, 3) := by decide +kernel
theorem dX9_init_97 : decode cX9_init 97 = .ok (.aload_n 0, 1) := by decide +kernel
theorem dX9_init_98 : decode cX9_init 98 = .ok (.getfield 12, 3) := by decide +kernel
theorem dX9_init_101 : decode cX9_init 101 = .ok (.ldc 65, 2) := by decide +kernel
theorem dX9_init_103 : decode cX9_init 103 = .ok (.invokevirtual 67, 3) := by decide +kernel
theorem cw_RX9_67 : zCwV RX9 67 mX6_addText := zall [313, 314, 315, 32, 316] (by decide +kernel) (by decide +kernel)
theorem dX9_init_106 : decode cX9_init 106 = .ok (.aload_n 0, 1) := by decide +kernel
theorem dX9_init_107 : decode cX9_init 107 = .ok (.getfield 12, 3) := by decide +kernel
theorem dX9_init_110 : decode cX9_init 110 = .ok (.ldc 71, 2) := by decide +kernel
theorem dX9_init_112 : decode cX9_init 112 = .ok (.invokevirtual 67, 3) := by decide +kernel
theorem dX9_init_115 : decode cX9_init 115 = .ok (.aload_n 0, 1) := by decide +kernel
theorem dX9_init_116 : decode cX9_init 116 = .ok (.getfield 12, 3) := by decide +kernel
theorem dX9_init_119 : decode cX9_init 119 = .ok (.ldc 73, 2) := by decide +kernel
theorem dX9_init_121 : decode cX9_init 121 = .ok (.invokevirtual 67, 3) := by decide +kernel
theorem dX9_init_124 : decode cX9_init 124 = .ok (.aload_n 0, 1) := by decide +kernel
theorem dX9_init_125 : decode cX9_init 125 = .ok (.getfield 12, 3) := by decide +kernel
theorem dX9_init_128 : decode cX9_init 128 = .ok (.ldc 75, 2) := by decide +kernel
theorem dX9_init_130 : decode cX9_init 130 = .ok (.invokevirtual 67, 3) := by decide +kernel
theorem dX9_init_133 : decode cX9_init 133 = .ok (.aload_n 0, 1) := by decide +kernel
theorem dX9_init_134 : decode cX9_init 134 = .ok (.getfield 12, 3) := by decide +kernel
theorem dX9_init_137 : decode cX9_init 137 = .ok (.ldc 77, 2) := by decide +kernel
theorem dX9_init_139 : decode cX9_init 139 = .ok (.invokevirtual 67, 3) := by decide +kernel
theorem dX9_init_142 : decode cX9_init 142 = .ok (.aload_n 0, 1) := by decide +kernel
theorem dX9_init_143 : decode cX9_init 143 = .ok (.getfield 12, 3) := by decide +kernel
theorem dX9_init_146 : decode cX9_init 146 = .ok (.ldc 79, 2) := by decide +kernel
theorem dX9_init_148 : decode cX9_init 148 = .ok (.invokevirtual 67, 3) := by decide +kernel
theorem dX9_init_151 : decode cX9_init 151 = .ok (.aload_n 0, 1) := by decide +kernel
theorem dX9_init_152 : decode cX9_init 152 = .ok (.getfield 12, 3) := by decide +kernel
theorem dX9_init_155 : decode cX9_init 155 = .ok (.ldc 81, 2) := by decide +kernel
theorem dX9_init_157 : decode cX9_init 157 = .ok (.invokevirtual 67, 3) := by decide +kernel
theorem dX9_init_160 : decode cX9_init 160 = .ok (.aload_n 0, 1) := by decide +kernel
theorem dX9_init_161 : decode cX9_init 161 = .ok (.getfield 19, 3) := by decide +kernel
theorem dX9_init_164 : decode cX9_init 164 = .ok (.aload_n 0, 1) := by decide +kernel
theorem dX9_init_165 : decode cX9_init 165 = .ok (.getfield 12, 3) := by decide +kernel
theorem dX9_init_168 : decode cX9_init 168 = .ok (.invokevirtual 83, 3) := by decide +kernel
theorem dX9_init_171 : decode cX9_init 171 = .ok (.pop, 1) := by decide +kernel
theorem dX9_init_172 : decode cX9_init 172 = .ok (.aload_n 0, 1) := by decide +kernel
theorem dX9_init_173 : decode cX9_init 173 = .ok (.getfield 12, 3) := by decide +kernel
theorem dX9_init_176 : decode cX9_init 176 = .ok (.iconst 0, 1) := by decide +kernel
theorem dX9_init_177 : decode cX9_init 177 = .ok (.invokevirtual 87, 3) := by decide +kernel
theorem dX9_init_180 : decode cX9_init 180 = .ok (.aload_n 0, 1) := by decide +kernel
theorem dX9_init_181 : decode cX9_init 181 = .ok (.getfield 33, 3) := by decide +kernel
theorem dX9_init_184 : decode cX9_init 184 = .ok (.aload_n 0, 1) := by decide +kernel
theorem dX9_init_185 : decode cX9_init 185 = .ok (.getfield 19, 3) := by decide +kernel
theorem dX9_init_188 : decode cX9_init 188 = .ok (.getfield 91, 3) := by decide +kernel
theorem dX9_init_191 : decode cX9_init 191 = .ok (.invokevirtual 94, 3) := by decide +kernel
theorem dX9_init_194 : decode cX9_init 194 = .ok (.return_, 1) := by decide +kernel
/-! from objects in the making to cells by number -/
def zWN (w : zW) (N : Nat) : zW := (w.1, w.2.1, w.2.2.1, w.2.2.2.1, w.2.2.2.2.1, w.2.2.2.2.2.1, N, w.2.2.2.2.2.2.2)
theorem zEnv_N {w : zW} {N : Nat} {U : State} (hN : zclb N = true) (h : zEnv w U) : zEnv (zWN w N) U := ⟨h.1, hN, h.2.2⟩
theorem zCtx_N {l : Launch} {w : zW} {m : zM} {p : Program} {s : State} {mid : MethodId} {args : Array Value} {meth : Method} {c : Code} {N : Nat} (hN : zclb N = true) (C : zCtx l w m p s mid args meth c) : zCtx l (zWN w N) m p s mid args meth c := ⟨C.1, C.2.1, C.2.2.1, C.2.2.2.1, C.2.2.2.2.1, C.2.2.2.2.2.1, C.2.2.2.2.2.2.1, C.2.2.2.2.2.2.2.1, zEnv_N hN C.2.2.2.2.2.2.2.2.1, C.2.2.2.2.2.2.2.2.2⟩
theorem eL_g (w : zW) (σ : zS) : ∀ (T : List Nat) (k j : Nat), (eL w σ T k)[j]? = (T[j]?).map (fun t => eT w σ t (k + j))
  | [], k, j => by rw [eL]; simp
  | t :: T, k, 0 => by rw [eL]; rfl
  | t :: T, k, j + 1 => by
    rw [eL, List.getElem?_cons_succ, List.getElem?_cons_succ, eL_g w σ T (k + 1) j, show k + 1 + j = k + (j + 1) by omega]
theorem zLs_eL {w : zW} {σ : zS} {N : Nat} (hl : N ≤ zshL.length) : zLs w (eL w σ (zshL.take N) 0) = zws (zWN w N) σ := by
  apply List.ext_getElem?
  intro j
  rw [zLs_g, eL_g]
  by_cases h : j < N
  · have h1 : (zshL.take N)[j]? = some (zsh j) := by
      rw [List.getElem?_take, if_pos h, List.getElem?_eq_getElem (Nat.lt_of_lt_of_le h hl)]
      unfold zsh
      rw [List.getD_eq_getElem?_getD, List.getElem?_eq_getElem (Nat.lt_of_lt_of_le h hl)]; rfl
    rw [h1, zws_at (w := zWN w N) h, zent_eT, Nat.zero_add]
    rfl
  · have h1 : (zshL.take N)[j]? = none := List.getElem?_eq_none (by rw [List.length_take]; omega)
    have h2 : (zws (zWN w N) σ)[j]? = none := List.getElem?_eq_none (by show (List.map _ (List.range N)).length ≤ j; rw [List.length_map, List.length_range]; omega)
    rw [h1, h2]; rfl
theorem zR_rep {w : zW} {σ : zS} {N : Nat} {H : Heap} (hl : N ≤ zshL.length) : zR w (eL w σ (zshL.take N) 0) H ↔ zRep (zWN w N) σ H := by
  show va_P _ _ _ _ ↔ va_P _ _ _ _
  rw [zLs_eL hl]
  exact Iff.rfl
section KZ
variable {l : Launch} {w : zW} {m : zM} {M : zMo} {ini : Bool} {pc kc ks : Nat} {ls : List zV} {E : List va_E} {σ : zS}
theorem zk_zx {N c0 s0 : Nat} {ls' : List zV} (hkc : kc = c0) (hks : ks = s0) (hN : zclb N = true) (hl : N ≤ zshL.length) (hE : E = eL w σ (zshL.take N) 0) (hls : zps w 0 ls = zps (zWN w N) 0 ls') (hok : ∀ v ∈ ls', zok (zWN w N) v) (hc : c0 ≤ M.1.cells) (hs : s0 ≤ M.1.slots) (kk : zX l (zWN w N) m (M.1, M.2.1, c0, s0) pc ls' [] 0 σ) : zK l w m M ini pc ls [] kc ks E := by
  subst hkc hks hE
  intro p e s mid args below meth c C hn H locs Ls hR hS hl2 hol hos hsz
  exact kk p e s mid args below meth c (zCtx_N hN C) H locs Ls ((zR_rep hl).mp hR) hS (by rw [← hls]; exact hl2) hok (fun v hv => by cases hv) hc hs
theorem zx_kret {h n sl N c0 s0 k : Nat} {Rs : Heap → Prop} (hr : m.2.2.2.1 = none) (hd : decode m.2.1 pc = .ok (.return_, 1)) (hRs : ∀ H, zRep (zWN w N) σ H → Rs H) (h1 : c0 + k ≤ n) (h2 : s0 + 6 * k ≤ sl) : zX l (zWN w N) m ((zKM w h n sl Rs).1, (zKM w h n sl Rs).2.1, c0, s0) pc ls [] k σ := by
  intro p e s mid args below meth c C H locs Ls hR hS hl hol hos hc hs
  refine W.widen (k := n) (n := sl) h1 h2 ?_
  exact vx_ret (W.vret C.1 C.2.1 (by rw [C.2.2.2.1]; exact hr) (fun t ht hW => ⟨rfl, by rw [ht]; exact hRs H hR, hS.F ht⟩) (fun q hq => hS.2.2 q hq) hd C.2.2.2.2.2.2.2.1)
end KZ
/-- the cells before anything was written -/
def zσ0 : zS := (fun k i => if (k = 1 ∧ i = 6) ∨ (k = 261 ∧ i = 23) then -1 else 0, 0)
theorem zs_1 : ∀ i, zσ0.1 1 i = if i = 6 then -1 else 0 := fun i => by
  show (if (1 = 1 ∧ i = 6) ∨ (1 = 261 ∧ i = 23) then (-1 : Int) else 0) = _
  by_cases h : i = 6
  · rw [if_pos (Or.inl ⟨rfl, h⟩), if_pos h]
  · rw [if_neg (by omega), if_neg h]
theorem zs_o {k : Nat} (h1 : k ≠ 1) (h2 : k ≠ 261) : ∀ i, zσ0.1 k i = 0 := fun i => if_neg (by omega)
theorem zs_z : zOK zσ0 := fun k i => by
  show zr (if _ then (-1 : Int) else 0)
  split <;> exact ⟨by decide, by decide⟩
/-- what the class's constructor leaves behind -/
def CI (σ : zS) : Prop := zOK σ ∧ WF (bk σ 30) ∧ (∃ (X : Nat → zTr) (M : Nat), cTr dtx 347 X M ∧ ¬ ((X M).2.1.2.1 = 0 ∧ ¬ xK dtx 347 (X M).2.1.1 = 0) ∧ zEq (X M).2.2 (bk σ 30) ∧ σ.1 1 5 = (cFin dtx 347 X M).2.1 ∧ σ.1 1 6 = (cFin dtx 347 X M).2.2) ∧ HBA σ ∧ σ.1 1 1 = 0 ∧ (∀ k, k = 0 ∨ 50 ≤ k → ∀ i, σ.1 k i = zσ0.1 k i) ∧ σ.2 = 0
theorem CI_ok {σ τ υ : zS} {X : Nat → zTr} {M : Nat} (hF : txF zσ0 σ) (hz : zOK υ) (h8 : zSame (fun q => q = 1 ∨ (4 ≤ q ∧ q ≤ 23)) σ τ) (hP : PC dtx 347 (cFin dtx 347 X M) τ) (hX : cTr dtx 347 X M) (hm : ¬ ((X M).2.1.2.1 = 0 ∧ ¬ xK dtx 347 (X M).2.1.1 = 0)) (hB : (X M).2.2 = bk τ 4) (hb : bbK τ 4) (h9 : zSame (fun q => 30 ≤ q ∧ q ≤ 30 + 19) (zput τ 1 1 0) υ) (ha : cpA (zput τ 1 1 0) υ (4 + 1) (30 + 1)) (hc : cpC (zput τ 1 1 0) υ (4 + 12) (30 + 12)) : CI υ := by
  have f9 : ∀ k, ¬ (30 ≤ k ∧ k ≤ 30 + 19) → k ≠ 1 → ∀ i, υ.1 k i = τ.1 k i := fun k h1 h2 i => (h9.1 k h1 i).trans (zput_k _ _ _ _ _ h2)
  have f8 : ∀ k, k ≠ 1 → k ≠ 2 → ¬ (4 ≤ k ∧ k ≤ 23) → ∀ i, τ.1 k i = zσ0.1 k i := fun k h1 h2 h3 i => (h8.1 k (fun q => q.elim h1 h3) i).trans (hF.1.1 k (fun q => q.elim h1 h2) i)
  have e1 : bk (zput τ 1 1 0) 4 = bk τ 4 := funext fun o => funext fun i => zput_k _ _ _ _ _ (by omega)
  have hE : zEq (X M).2.2 (bk υ 30) := by rw [hB, ← e1]; exact zEq_cp ha hc
  have z : ∀ k, 50 ≤ k → k ≠ 261 → ∀ i, υ.1 k i = 0 := fun k h1 h2 i => ((f9 k (by omega) (by omega) i).trans (f8 k (by omega) (by omega) (by omega) i)).trans (zs_o (by omega) h2 i)
  refine ⟨hz, WF_eq hE (hX.2.1 M (Nat.le_refl _)).1, ⟨X, M, hX, hm, hE, ?_, ?_⟩, ?_, ?_, ?_, ?_⟩
  · exact ((h9.1 1 (by omega) 5).trans (zput_i _ _ _ _ _ (by decide))).trans hP.2.2.2.1.1
  · exact ((h9.1 1 (by omega) 6).trans (zput_i _ _ _ _ _ (by decide))).trans hP.2.2.2.1.2
  · intro k hk
    rcases hk with rfl | rfl | rfl | ⟨r, hr, rfl⟩
    · exact bb_pt2 (fun i => f9 21 (by omega) (by omega) i) (fun i => f9 22 (by omega) (by omega) i) hb
    · exact bb_cp (o := 4) (k := 30) hc (bb_put2 (by decide) (by decide) hb)
    · exact fun i _ => ⟨Or.inl (z 67 (by omega) (by omega) i), Or.inl (z 68 (by omega) (by omega) i)⟩
    · exact fun i _ => ⟨Or.inl (z _ (by omega) (by omega) i), Or.inl (z _ (by omega) (by omega) i)⟩
  · exact (h9.1 1 (by omega) 1).trans (zput_s _ _ _ _)
  · exact fun k hk i => (f9 k (by omega) (by omega) i).trans (f8 k (by omega) (by omega) (by omega) i)
  · exact h9.2.trans (h8.2.trans hF.1.2)
section KX2
variable {l : Launch} {w : zW} {m : zM} {M : zMo} {ini : Bool} {pc kc ks : Nat} {ls st : List zV} {σ : zS} {pre : List va_E} {t : Nat} {fs : List Value} {T : List Nat}
theorem kx_ctorI {t' ix ic N mx h n sl : Nat} {Cn : String} {Tt : u_T} {df : List Value} {y : MethodName} {cc : ByteArray} {T' T2 : List Nat} {a : Addr} (ha : a = zB w + (pre.length + 1 + T.length)) (hc : vwCl[t']? = some (Cn, Tt, N)) (h1 : Cond.classLink m.1.cls ix Cn ∈ zgood) (h2 : Cond.instantiable Cn N ∈ zgood) (h3 : Cond.initialized Cn ∈ zgood) (hfs : ∀ ty : Nat → FieldType, (∀ k, k < N → parseFieldDescriptor (Tt k).2.2.1 = some (ty k)) → ∀ j, j < N → defaultValue (ty j) = vp_V df j)
    (d0 : decode m.2.1 pc = .ok (.new ix, 3)) (d3 : decode m.2.1 (pc + 3) = .ok (.dup, 1)) (d4 : decode m.2.1 (pc + 4) = .ok (.invokespecial ic, 3)) (hC : ∀ pre' : List va_E, pre'.length = pre.length + 1 + T.length → zCon l w (y, cc, mx, none, []) h n sl pre' (.inr (t', df)) (zRs w (fun _ : Unit => True) (fun _ => pre' ++ eL w σ (t' :: T') pre'.length))) (hn : T'.length = n) (hw : ∀ x ∈ ([.methodLink m.1.cls ic y, .instanceMethod y, .initialized y.cls, .code y cc mx none] : List Cond), x ∈ zgood) (hm : zMok (y, cc, mx, none, []) 0) (hy : y.name = "<init>") (hst : (st.map zcat).sum ≤ 7)
    (hf : h + 1 ≤ M.1.frames ∧ 8 + (mx + 11) + 34 * h ≤ M.1.locals ∧ kc + 1 + n ≤ M.1.cells ∧ ks + N + sl ≤ M.1.slots) (hT2 : T ++ (t' :: T') = T2) (kk : zK l w m M ini (pc + 4 + 3) ls (zV0 a :: st) (kc + 1 + n) (ks + N + sl) (eX w σ pre t fs T2)) : zK l w m M ini pc ls st kc ks (eX w σ pre t fs T) := by
  subst hT2 ha
  have hln := eX_len (w := w) (σ := σ) (pre := pre) (t := t) (fs := fs) (T := T)
  refine zk_new (a := zB w + (pre.length + 1 + T.length)) (by rw [eX_len]) eX_ne hc h1 h2 h3 hfs (by have := hf.2.2.1; omega) (by have := hf.2.2.2; omega) d0 ?_
  refine zk_dup rfl d3 ?_
  have hst2 : ((zV0 (zB w + (pre.length + 1 + T.length)) :: st).map zcat).sum ≤ 8 := by
    rw [List.map_cons, List.sum_cons]
    show 1 + _ ≤ 8
    omega
  refine zk_ctorI (hC (eX w σ pre t fs T) hln) (by rw [hln]) rfl (by rw [List.length_append]; rfl) d4 hw hm hy hst2 hf (fun _ => by rw [List.length_append, List.length_append, eL_len, List.length_cons, hn]; show _ = _ + 1 + n; omega) (fun q => by
    have h1 := congrArg List.length q
    rw [List.length_append, hln] at h1
    have h2 : ([] : List va_E).length = 0 := rfl
    omega) (fun _ _ => ?_)
  rw [hln, eX_app]
  exact kk
end KX2

def T9_1 : List Nat := [] ++ (6 :: [20])
def T9_2 : List Nat := T9_1 ++ (4 :: [1, 0, 21, 21, 21, 21, 21, 21, 21, 21, 22, 22, 2, 23, 23, 23, 23, 24, 24, 23])
def T9_3 : List Nat := T9_2 ++ (3 :: [25, 25, 25, 25, 25])
def T9_4 : List Nat := T9_3 ++ (1 :: zBL)
def T9_5 : List Nat := T9_4 ++ (1 :: zBL)
def T9_6 : List Nat := T9_5 ++ (5 :: (26 :: zTB 9))
def T9_7 : List Nat := T9_6 ++ (7 :: [24, 27, 21, 21, 21, 21])
def T9_8 : List Nat := T9_7 ++ (8 :: [28])
set_option maxRecDepth 20000 in
set_option maxHeartbeats 4000000 in
theorem con_X9 {l : Launch} {w : zW} (hfl : l.stackTraces = false) : zCon l w mX9_init 9 260 7031 [] (.inr (9, [Value.null, Value.null, Value.null, Value.null, Value.null, Value.int 0, Value.null, Value.null, Value.null])) (zRs w CI (fun σ => eL w σ (zshL.take 261) 0)) := by
  obtain ⟨Rs, hRs⟩ : ∃ Rs : Heap → Prop, Rs = zRs w CI (fun σ => eL w σ (zshL.take 261) 0) := ⟨_, rfl⟩
  rw [← hRs]
  refine zk_enter hfl (by decide) rfl rfl 0 rfl ?_
  show zK l w mX9_init _ true 0 [zV0 (zB w + ([] : List va_E).length)] [] 0 0 (eX w zσ0 [] 9 [Value.null, Value.null, Value.null, Value.null, Value.null, Value.int 0, Value.null, Value.null, Value.null] [])
  refine zk_aloadN dX9_init_0 rfl rfl ?_
  refine zk_obj ob_RX9_3 (Nat.le_of_ble_eq_true rfl) ⟨(Nat.le_of_ble_eq_true rfl), (Nat.le_of_ble_eq_true rfl)⟩ dX9_init_1 ?_
  refine zk_aloadN dX9_init_4 rfl rfl ?_
  refine kx_ctor (t' := 6) (N := 7) (Cn := RX6) (Tt := TX6) (a := zB w + (([] : List va_E).length + 1)) (T2 := T9_1) rfl rfl kl_RX9_9 it_X6 iz_X6 df_X6 dX9_init_5 dX9_init_8 dX9_init_9 (fun pre' hp => by
      have hp2 : pre'.length = 1 := hp
      exact con_X6 hfl (fun i => by rw [hp2]; exact zs_1 i) (fun j h1 h2 => zs_o (by omega) (by omega))) rfl cn_RX9_11 okX6_init rfl (Nat.le_of_ble_eq_true rfl) ⟨(Nat.le_of_ble_eq_true rfl), (Nat.le_of_ble_eq_true rfl), (Nat.le_of_ble_eq_true rfl), (Nat.le_of_ble_eq_true rfl)⟩ rfl ?_
  refine kx_put (ty := (.object "ColophonDetective$InputText")) fl_RX9_12 (Nat.le_of_ble_eq_true rfl) (fun _ _ _ h => by cases h; exact ⟨by decide +kernel, Or.inr ⟨rfl, rfl, rfl⟩⟩) rfl rfl dX9_init_12 (fs' := [Value.ref (zB w + (([] : List va_E).length + 1)), Value.null, Value.null, Value.null, Value.null, Value.int 0, Value.null, Value.null, Value.null]) rfl ?_
  refine zk_aloadN dX9_init_15 rfl rfl ?_
  refine kx_ctor (t' := 4) (N := 1) (Cn := RX4) (Tt := TX4) (a := zB w + (([] : List va_E).length + 3)) (T2 := T9_2) rfl rfl kl_RX9_16 it_X4 iz_X4 df_X4 dX9_init_16 dX9_init_19 dX9_init_20 (fun pre' hp => by
      have hp2 : pre'.length = 3 := hp
      exact con_X4 hfl (fun j h1 h2 => zs_o (by omega) (by omega))) rfl cn_RX9_18 okX4_init rfl (Nat.le_of_ble_eq_true rfl) ⟨(Nat.le_of_ble_eq_true rfl), (Nat.le_of_ble_eq_true rfl), (Nat.le_of_ble_eq_true rfl), (Nat.le_of_ble_eq_true rfl)⟩ rfl ?_
  refine kx_put (ty := (.object "ColophonDetective$ConfigurationReader")) fl_RX9_19 (Nat.le_of_ble_eq_true rfl) (fun _ _ _ h => by cases h; exact ⟨by decide +kernel, Or.inr ⟨rfl, rfl, rfl⟩⟩) rfl rfl dX9_init_23 (fs' := [Value.ref (zB w + (([] : List va_E).length + 1)), Value.ref (zB w + (([] : List va_E).length + 3)), Value.null, Value.null, Value.null, Value.int 0, Value.null, Value.null, Value.null]) rfl ?_
  refine zk_aloadN dX9_init_26 rfl rfl ?_
  refine kx_ctor (t' := 3) (N := 6) (Cn := RX3) (Tt := TX3) (a := zB w + (([] : List va_E).length + 24)) (T2 := T9_3) rfl rfl kl_RX9_23 it_X3 iz_X3 df_X3 dX9_init_27 dX9_init_30 dX9_init_31 (fun pre' hp => by
      have hp2 : pre'.length = 24 := hp
      exact con_X3 hfl (fun j h1 h2 => zs_o (by omega) (by omega))) rfl cn_RX9_25 okX3_init rfl (Nat.le_of_ble_eq_true rfl) ⟨(Nat.le_of_ble_eq_true rfl), (Nat.le_of_ble_eq_true rfl), (Nat.le_of_ble_eq_true rfl), (Nat.le_of_ble_eq_true rfl)⟩ rfl ?_
  refine kx_put (ty := (.object "ColophonDetective$CommandList")) fl_RX9_26 (Nat.le_of_ble_eq_true rfl) (fun _ _ _ h => by cases h; exact ⟨by decide +kernel, Or.inr ⟨rfl, rfl, rfl⟩⟩) rfl rfl dX9_init_34 (fs' := [Value.ref (zB w + (([] : List va_E).length + 1)), Value.ref (zB w + (([] : List va_E).length + 3)), Value.ref (zB w + (([] : List va_E).length + 24)), Value.null, Value.null, Value.int 0, Value.null, Value.null, Value.null]) rfl ?_
  refine zk_aloadN dX9_init_37 rfl rfl ?_
  refine kx_ctor (t' := 1) (N := 2) (Cn := RX1) (Tt := TX1) (a := zB w + (([] : List va_E).length + 30)) (T2 := T9_4) rfl rfl kl_RX9_30 it_X1 iz_X1 df_X1 dX9_init_38 dX9_init_41 dX9_init_42 (fun pre' hp => by
      have hp2 : pre'.length = 30 := hp
      exact con_X1 hfl (fun j h1 h2 => zs_o (by omega) (by omega))) rfl cn_RX9_32 okX1_init rfl (Nat.le_of_ble_eq_true rfl) ⟨(Nat.le_of_ble_eq_true rfl), (Nat.le_of_ble_eq_true rfl), (Nat.le_of_ble_eq_true rfl), (Nat.le_of_ble_eq_true rfl)⟩ rfl ?_
  refine kx_put (ty := (.object "ColophonDetective$Casebook")) fl_RX9_33 (Nat.le_of_ble_eq_true rfl) (fun _ _ _ h => by cases h; exact ⟨by decide +kernel, Or.inr ⟨rfl, rfl, rfl⟩⟩) rfl rfl dX9_init_45 (fs' := [Value.ref (zB w + (([] : List va_E).length + 1)), Value.ref (zB w + (([] : List va_E).length + 3)), Value.ref (zB w + (([] : List va_E).length + 24)), Value.ref (zB w + (([] : List va_E).length + 30)), Value.null, Value.int 0, Value.null, Value.null, Value.null]) rfl ?_
  refine zk_aloadN dX9_init_48 rfl rfl ?_
  refine kx_ctor (t' := 1) (N := 2) (Cn := RX1) (Tt := TX1) (a := zB w + (([] : List va_E).length + 50)) (T2 := T9_5) rfl rfl kl_RX9_30 it_X1 iz_X1 df_X1 dX9_init_49 dX9_init_52 dX9_init_53 (fun pre' hp => by
      have hp2 : pre'.length = 50 := hp
      exact con_X1 hfl (fun j h1 h2 => zs_o (by omega) (by omega))) rfl cn_RX9_32 okX1_init rfl (Nat.le_of_ble_eq_true rfl) ⟨(Nat.le_of_ble_eq_true rfl), (Nat.le_of_ble_eq_true rfl), (Nat.le_of_ble_eq_true rfl), (Nat.le_of_ble_eq_true rfl)⟩ rfl ?_
  refine kx_put (ty := (.object "ColophonDetective$Casebook")) fl_RX9_37 (Nat.le_of_ble_eq_true rfl) (fun _ _ _ h => by cases h; exact ⟨by decide +kernel, Or.inr ⟨rfl, rfl, rfl⟩⟩) rfl rfl dX9_init_56 (fs' := [Value.ref (zB w + (([] : List va_E).length + 1)), Value.ref (zB w + (([] : List va_E).length + 3)), Value.ref (zB w + (([] : List va_E).length + 24)), Value.ref (zB w + (([] : List va_E).length + 30)), Value.ref (zB w + (([] : List va_E).length + 50)), Value.int 0, Value.null, Value.null, Value.null]) rfl ?_
  refine zk_aloadN dX9_init_59 rfl rfl ?_
  refine zk_iconst dX9_init_60 ?_
  refine kx_put (ty := .boolean) fl_RX9_40 (Nat.le_of_ble_eq_true rfl) (fun _ _ _ h => by cases h; exact ⟨by decide +kernel, Or.inl rfl⟩) rfl rfl dX9_init_61 (fs' := [Value.ref (zB w + (([] : List va_E).length + 1)), Value.ref (zB w + (([] : List va_E).length + 3)), Value.ref (zB w + (([] : List va_E).length + 24)), Value.ref (zB w + (([] : List va_E).length + 30)), Value.ref (zB w + (([] : List va_E).length + 50)), Value.int (Int32.ofInt 0), Value.null, Value.null, Value.null]) rfl ?_
  refine zk_aloadN dX9_init_64 rfl rfl ?_
  refine kx_ctorI (t' := 5) (N := 3) (Cn := RX5) (Tt := TX5) (a := zB w + (([] : List va_E).length + 70)) (T2 := T9_6) rfl rfl kl_RX9_44 it_X5 iz_X5 df_X5 dX9_init_65 dX9_init_68 dX9_init_69 (fun pre' hp => by
      have hp2 : pre'.length = 70 := hp
      exact con_X5 hfl (fun j h1 h2 => zs_o (by omega) (by omega))) rfl ci_RX9_46 okX5_init rfl (Nat.le_of_ble_eq_true rfl) ⟨(Nat.le_of_ble_eq_true rfl), (Nat.le_of_ble_eq_true rfl), (Nat.le_of_ble_eq_true rfl), (Nat.le_of_ble_eq_true rfl)⟩ rfl ?_
  refine kx_put (ty := (.object "ColophonDetective$History")) fl_RX9_47 (Nat.le_of_ble_eq_true rfl) (fun _ _ _ h => by cases h; exact ⟨by decide +kernel, Or.inr ⟨rfl, rfl, rfl⟩⟩) rfl rfl dX9_init_72 (fs' := [Value.ref (zB w + (([] : List va_E).length + 1)), Value.ref (zB w + (([] : List va_E).length + 3)), Value.ref (zB w + (([] : List va_E).length + 24)), Value.ref (zB w + (([] : List va_E).length + 30)), Value.ref (zB w + (([] : List va_E).length + 50)), Value.int (Int32.ofInt 0), Value.ref (zB w + (([] : List va_E).length + 70)), Value.null, Value.null]) rfl ?_
  refine zk_aloadN dX9_init_75 rfl rfl ?_
  refine kx_ctor (t' := 7) (N := 7) (Cn := RX7) (Tt := TX7) (a := zB w + (([] : List va_E).length + 252)) (T2 := T9_7) rfl rfl kl_RX9_51 it_X7 iz_X7 df_X7 dX9_init_76 dX9_init_79 dX9_init_80 (fun pre' hp => by
      have hp2 : pre'.length = 252 := hp
      exact con_X7 hfl (fun j h1 h2 => zs_o (by omega) (by omega))) rfl cn_RX9_53 okX7_init rfl (Nat.le_of_ble_eq_true rfl) ⟨(Nat.le_of_ble_eq_true rfl), (Nat.le_of_ble_eq_true rfl), (Nat.le_of_ble_eq_true rfl), (Nat.le_of_ble_eq_true rfl)⟩ rfl ?_
  refine kx_put (ty := (.object "ColophonDetective$Judge")) fl_RX9_54 (Nat.le_of_ble_eq_true rfl) (fun _ _ _ h => by cases h; exact ⟨by decide +kernel, Or.inr ⟨rfl, rfl, rfl⟩⟩) rfl rfl dX9_init_83 (fs' := [Value.ref (zB w + (([] : List va_E).length + 1)), Value.ref (zB w + (([] : List va_E).length + 3)), Value.ref (zB w + (([] : List va_E).length + 24)), Value.ref (zB w + (([] : List va_E).length + 30)), Value.ref (zB w + (([] : List va_E).length + 50)), Value.int (Int32.ofInt 0), Value.ref (zB w + (([] : List va_E).length + 70)), Value.ref (zB w + (([] : List va_E).length + 252)), Value.null]) rfl ?_
  refine zk_aloadN dX9_init_86 rfl rfl ?_
  refine kx_ctor (t' := 8) (N := 2) (Cn := RX8) (Tt := TX8) (a := zB w + (([] : List va_E).length + 259)) (T2 := T9_8) rfl rfl kl_RX9_58 it_X8 iz_X8 df_X8 dX9_init_87 dX9_init_90 dX9_init_91 (fun pre' hp => by
      have hp2 : pre'.length = 259 := hp
      exact con_X8 hfl (fun j h1 h2 => zs_o (by omega) (by omega))) rfl cn_RX9_60 okX8_init rfl (Nat.le_of_ble_eq_true rfl) ⟨(Nat.le_of_ble_eq_true rfl), (Nat.le_of_ble_eq_true rfl), (Nat.le_of_ble_eq_true rfl), (Nat.le_of_ble_eq_true rfl)⟩ rfl ?_
  refine kx_put (ty := (.object "ColophonDetective$OutputText")) fl_RX9_61 (Nat.le_of_ble_eq_true rfl) (fun _ _ _ h => by cases h; exact ⟨by decide +kernel, Or.inr ⟨rfl, rfl, rfl⟩⟩) rfl rfl dX9_init_94 (fs' := [Value.ref (zB w + (([] : List va_E).length + 1)), Value.ref (zB w + (([] : List va_E).length + 3)), Value.ref (zB w + (([] : List va_E).length + 24)), Value.ref (zB w + (([] : List va_E).length + 30)), Value.ref (zB w + (([] : List va_E).length + 50)), Value.int (Int32.ofInt 0), Value.ref (zB w + (([] : List va_E).length + 70)), Value.ref (zB w + (([] : List va_E).length + 252)), Value.ref (zB w + (([] : List va_E).length + 259))]) rfl ?_
  refine zk_zx (N := 261) (c0 := 260) (s0 := 7031) (σ := zσ0) (ls' := [zf 9 0]) rfl rfl (by decide +kernel) (by decide +kernel) ?_ rfl (fun v hv => ?_) (Nat.le_of_ble_eq_true rfl) (Nat.le_of_ble_eq_true rfl) ?_
  · refine (eX_end (pre := []) (c := fun _ => 0) (by decide) (zs_o (by decide) (by decide)) rfl).trans ?_
    have e : 9 :: T9_8 = zshL.take 261 := by decide +kernel
    rw [e]; rfl
  · rcases List.mem_singleton.mp hv with rfl
    exact Or.inr (Or.inr ⟨by decide, by show 0 < 261; decide, by decide +kernel⟩)
  have hz0 := zs_z
  have hT0 : TC zσ0 [] := ⟨rfl, fun i => (zs_o (by decide) (by decide) i).trans rfl⟩
  have hF0 := txF_rf zσ0
  refine zx_aloadN dX9_init_97 rfl rfl ?_
  refine zy_getR (q' := 1) fl_RX9_12 rfl dX9_init_98 rfl ?_
  refine zx_ldcS (List.mem_of_getElem? (i := 0) rfl) (by decide) dX9_init_101 ?_
  refine zy_cvvR [zf 100 0] (sX6_addText hfl hz0 hT0 (by simp only [List.length_append, sbn_l, List.length_nil]; decide)) dX9_init_103 (by decide) rfl cw_RX9_67 okX6_addText rfl (Nat.le_of_ble_eq_true rfl) ⟨(Nat.le_of_ble_eq_true rfl), (Nat.le_of_ble_eq_true rfl), (Nat.le_of_ble_eq_true rfl), (Nat.le_of_ble_eq_true rfl)⟩ (fun τ1 h1 => ?_)
  obtain ⟨hz1, hG1, hT1⟩ := h1
  have hF1 := txF_tr hF0 hG1
  refine zx_aloadN dX9_init_106 rfl rfl ?_
  refine zy_getR (q' := 1) fl_RX9_12 rfl dX9_init_107 rfl ?_
  refine zx_ldcS (List.mem_of_getElem? (i := 1) rfl) (by decide) dX9_init_110 ?_
  refine zy_cvvR [zf 100 1] (sX6_addText hfl hz1 hT1 (by simp only [List.length_append, sbn_l, List.length_nil]; decide)) dX9_init_112 (by decide) rfl cw_RX9_67 okX6_addText rfl (Nat.le_of_ble_eq_true rfl) ⟨(Nat.le_of_ble_eq_true rfl), (Nat.le_of_ble_eq_true rfl), (Nat.le_of_ble_eq_true rfl), (Nat.le_of_ble_eq_true rfl)⟩ (fun τ2 h2 => ?_)
  obtain ⟨hz2, hG2, hT2⟩ := h2
  have hF2 := txF_tr hF1 hG2
  refine zx_aloadN dX9_init_115 rfl rfl ?_
  refine zy_getR (q' := 1) fl_RX9_12 rfl dX9_init_116 rfl ?_
  refine zx_ldcS (List.mem_of_getElem? (i := 2) rfl) (by decide) dX9_init_119 ?_
  refine zy_cvvR [zf 100 2] (sX6_addText hfl hz2 hT2 (by simp only [List.length_append, sbn_l, List.length_nil]; decide)) dX9_init_121 (by decide) rfl cw_RX9_67 okX6_addText rfl (Nat.le_of_ble_eq_true rfl) ⟨(Nat.le_of_ble_eq_true rfl), (Nat.le_of_ble_eq_true rfl), (Nat.le_of_ble_eq_true rfl), (Nat.le_of_ble_eq_true rfl)⟩ (fun τ3 h3 => ?_)
  obtain ⟨hz3, hG3, hT3⟩ := h3
  have hF3 := txF_tr hF2 hG3
  refine zx_aloadN dX9_init_124 rfl rfl ?_
  refine zy_getR (q' := 1) fl_RX9_12 rfl dX9_init_125 rfl ?_
  refine zx_ldcS (List.mem_of_getElem? (i := 3) rfl) (by decide) dX9_init_128 ?_
  refine zy_cvvR [zf 100 3] (sX6_addText hfl hz3 hT3 (by simp only [List.length_append, sbn_l, List.length_nil]; decide)) dX9_init_130 (by decide) rfl cw_RX9_67 okX6_addText rfl (Nat.le_of_ble_eq_true rfl) ⟨(Nat.le_of_ble_eq_true rfl), (Nat.le_of_ble_eq_true rfl), (Nat.le_of_ble_eq_true rfl), (Nat.le_of_ble_eq_true rfl)⟩ (fun τ4 h4 => ?_)
  obtain ⟨hz4, hG4, hT4⟩ := h4
  have hF4 := txF_tr hF3 hG4
  refine zx_aloadN dX9_init_133 rfl rfl ?_
  refine zy_getR (q' := 1) fl_RX9_12 rfl dX9_init_134 rfl ?_
  refine zx_ldcS (List.mem_of_getElem? (i := 4) rfl) (by decide) dX9_init_137 ?_
  refine zy_cvvR [zf 100 4] (sX6_addText hfl hz4 hT4 (by simp only [List.length_append, sbn_l, List.length_nil]; decide)) dX9_init_139 (by decide) rfl cw_RX9_67 okX6_addText rfl (Nat.le_of_ble_eq_true rfl) ⟨(Nat.le_of_ble_eq_true rfl), (Nat.le_of_ble_eq_true rfl), (Nat.le_of_ble_eq_true rfl), (Nat.le_of_ble_eq_true rfl)⟩ (fun τ5 h5 => ?_)
  obtain ⟨hz5, hG5, hT5⟩ := h5
  have hF5 := txF_tr hF4 hG5
  refine zx_aloadN dX9_init_142 rfl rfl ?_
  refine zy_getR (q' := 1) fl_RX9_12 rfl dX9_init_143 rfl ?_
  refine zx_ldcS (List.mem_of_getElem? (i := 5) rfl) (by decide) dX9_init_146 ?_
  refine zy_cvvR [zf 100 5] (sX6_addText hfl hz5 hT5 (by simp only [List.length_append, sbn_l, List.length_nil]; decide)) dX9_init_148 (by decide) rfl cw_RX9_67 okX6_addText rfl (Nat.le_of_ble_eq_true rfl) ⟨(Nat.le_of_ble_eq_true rfl), (Nat.le_of_ble_eq_true rfl), (Nat.le_of_ble_eq_true rfl), (Nat.le_of_ble_eq_true rfl)⟩ (fun τ6 h6 => ?_)
  obtain ⟨hz6, hG6, hT6⟩ := h6
  have hF6 := txF_tr hF5 hG6
  refine zx_aloadN dX9_init_151 rfl rfl ?_
  refine zy_getR (q' := 1) fl_RX9_12 rfl dX9_init_152 rfl ?_
  refine zx_ldcS (List.mem_of_getElem? (i := 6) rfl) (by decide) dX9_init_155 ?_
  refine zy_cvvR [zf 100 6] (sX6_addText hfl hz6 hT6 (by simp only [List.length_append, sbn_l, List.length_nil]; decide)) dX9_init_157 (by decide) rfl cw_RX9_67 okX6_addText rfl (Nat.le_of_ble_eq_true rfl) ⟨(Nat.le_of_ble_eq_true rfl), (Nat.le_of_ble_eq_true rfl), (Nat.le_of_ble_eq_true rfl), (Nat.le_of_ble_eq_true rfl)⟩ (fun τ7 h7 => ?_)
  obtain ⟨hz7, hG7, hT7⟩ := h7
  have hF7 := txF_tr hF6 hG7
  have zl : zslen.getD 0 0 = 80 ∧ zslen.getD 1 0 = 47 ∧ zslen.getD 2 0 = 41 ∧ zslen.getD 3 0 = 30 ∧ zslen.getD 4 0 = 39 ∧ zslen.getD 5 0 = 59 ∧ zslen.getD 6 0 = 51 := by decide
  rw [zl.1, zl.2.1, zl.2.2.1, zl.2.2.2.1, zl.2.2.2.2.1, zl.2.2.2.2.2.1, zl.2.2.2.2.2.2, List.nil_append, ← dt_s] at hT7
  have hn7 : τ7.1 1 1 = (347 : Int) := by rw [hT7.1, dt_l]; rfl
  have hb7 : bbK τ7 4 := fun i _ => ⟨Or.inl ((hF7.1.1 21 (by decide) i).trans (zs_o (by decide) (by decide) i)), Or.inl ((hF7.1.1 22 (by decide) i).trans (zs_o (by decide) (by decide) i))⟩
  refine zx_aloadN dX9_init_160 rfl rfl ?_
  refine zy_getR (q' := 3) fl_RX9_19 rfl dX9_init_161 rfl ?_
  refine zx_aloadN dX9_init_164 rfl rfl ?_
  refine zy_getR (q' := 1) fl_RX9_12 rfl dX9_init_165 rfl ?_
  refine zx_callV (as := [zf 6 1]) (sX4_fillFrom hfl hz7 hb7 (t := dtx) (n := 347) (fun i => (hT7.2 i).trans (dt_x i)) ⟨hn7, by decide⟩) dX9_init_168 (by decide) rfl cw_RX9_83 okX4_fillFrom rfl (Nat.le_of_ble_eq_true rfl) ⟨(Nat.le_of_ble_eq_true rfl), (Nat.le_of_ble_eq_true rfl), (Nat.le_of_ble_eq_true rfl), (Nat.le_of_ble_eq_true rfl)⟩ (fun r τ8 h8 => ?_) (fun E τ8 h8 => by obtain ⟨X, M, e, -⟩ := h8; cases e)
  obtain ⟨X, M, e8, hz8, hS8, hP8, hX8, hm8, hB8, hb8⟩ := h8
  cases e8
  refine zx_pop rfl dX9_init_171 ?_
  refine zx_aloadN dX9_init_172 rfl rfl ?_
  refine zy_getR (q' := 1) fl_RX9_12 rfl dX9_init_173 rfl ?_
  refine zx_iconst dX9_init_176 ?_
  have hn8 : τ8.1 1 1 = (347 : Int) := hP8.2.1.1
  refine zy_cvv [zi 0] (sX6_cutTo hfl hz8 (by omega) (by omega)) dX9_init_177 (by decide) rfl cw_RX9_87 okX6_cutTo rfl (Nat.le_of_ble_eq_true rfl) ⟨(Nat.le_of_ble_eq_true rfl), (Nat.le_of_ble_eq_true rfl), (Nat.le_of_ble_eq_true rfl), (Nat.le_of_ble_eq_true rfl)⟩ ?_
  refine zx_aloadN dX9_init_180 rfl rfl ?_
  refine zy_getR (q' := 30) fl_RX9_33 rfl dX9_init_181 rfl ?_
  refine zx_aloadN dX9_init_184 rfl rfl ?_
  refine zy_getR (q' := 3) fl_RX9_19 rfl dX9_init_185 rfl ?_
  refine zy_getR (q' := 4) fl_RX9_91 rfl dX9_init_188 rfl ?_
  refine zy_cvvR [zf 1 4] (sX1_copyFrom hfl (k := 30) (o := 4) (zOK_put hz8 (by unfold zr; omega)) (by decide) (bb_put2 (by decide) (by decide) hb8)) dX9_init_191 (by decide) rfl cw_RX9_94 okX1_copyFrom rfl (Nat.le_of_ble_eq_true rfl) ⟨(Nat.le_of_ble_eq_true rfl), (Nat.le_of_ble_eq_true rfl), (Nat.le_of_ble_eq_true rfl), (Nat.le_of_ble_eq_true rfl)⟩ (fun τ9 h9 => ?_)
  obtain ⟨hz9, hS9, ha9, hc9⟩ := h9
  refine zx_kret rfl dX9_init_194 (fun H hR => ?_) (Nat.le_of_ble_eq_true rfl) (Nat.le_of_ble_eq_true rfl)
  rw [hRs]
  exact ⟨τ9, CI_ok hF7 hz9 hS8 hP8 hX8 hm8 hB8 hb8 hS9 ha9 hc9, (zR_rep (by decide +kernel)).mpr hR⟩

