theorem dL_law_30 : decode cL_law 30 = .ok (.iload 4, 2) := by decide +kernel
theorem dL_law_32 : decode cL_law 32 = .ok (.iload_n 1, 1) := by decide +kernel
theorem dL_law_33 : decode cL_law 33 = .ok (.if_icmp .ge 98, 3) := by decide +kernel
theorem dL_law_131 : decode cL_law 131 = .ok (.iconst 0, 1) := by decide +kernel
theorem dL_law_132 : decode cL_law 132 = .ok (.istore 4, 2) := by decide +kernel
theorem dL_law_36 : decode cL_law 36 = .ok (.sipush 1500, 3) := by decide +kernel
theorem dL_law_39 : decode cL_law 39 = .ok (.aload_n 0, 1) := by decide +kernel
theorem dL_law_40 : decode cL_law 40 = .ok (.iconst 5, 1) := by decide +kernel
theorem dL_law_41 : decode cL_law 41 = .ok (.iload 4, 2) := by decide +kernel
theorem dL_law_43 : decode cL_law 43 = .ok (.iadd, 1) := by decide +kernel
theorem dL_law_44 : decode cL_law 44 = .ok (.invokestatic 241, 3) := by decide +kernel
theorem cw_RL_241 : zCwS RL 241 mL_cell := zall [672, 673, 18, 674] (by decide +kernel) (by decide +kernel)
theorem dL_law_47 : decode cL_law 47 = .ok (.bipush 25, 2) := by decide +kernel
theorem dL_law_49 : decode cL_law 49 = .ok (.irem, 1) := by decide +kernel
theorem dL_law_50 : decode cL_law 50 = .ok (.iadd, 1) := by decide +kernel
theorem dL_law_51 : decode cL_law 51 = .ok (.istore 5, 2) := by decide +kernel
theorem dL_law_53 : decode cL_law 53 = .ok (.aload_n 3, 1) := by decide +kernel
theorem dL_law_54 : decode cL_law 54 = .ok (.ldc 248, 2) := by decide +kernel
theorem dL_law_56 : decode cL_law 56 = .ok (.invokevirtual 250, 3) := by decide +kernel
theorem cw_RL_250 : zCwV RL 250 mJ4_append_15ec4 := zall [1245, 1246, 1247, 21, 1248] (by decide +kernel) (by decide +kernel)
theorem dL_law_59 : decode cL_law 59 = .ok (.bipush 97, 2) := by decide +kernel
theorem dL_law_61 : decode cL_law 61 = .ok (.iload 4, 2) := by decide +kernel
theorem dL_law_63 : decode cL_law 63 = .ok (.iadd, 1) := by decide +kernel
theorem dL_law_64 : decode cL_law 64 = .ok (.i2c, 1) := by decide +kernel
theorem dL_law_65 : decode cL_law 65 = .ok (.invokevirtual 253, 3) := by decide +kernel
theorem cw_RL_253 : zCwV RL 253 mJ4_append_cf468 := zall [1340, 1341, 1342, 21, 1343] (by decide +kernel) (by decide +kernel)
theorem dL_law_68 : decode cL_law 68 = .ok (.bipush 32, 2) := by decide +kernel
theorem dL_law_70 : decode cL_law 70 = .ok (.invokevirtual 253, 3) := by decide +kernel
theorem dL_law_73 : decode cL_law 73 = .ok (.aload_n 0, 1) := by decide +kernel
theorem dL_law_74 : decode cL_law 74 = .ok (.iconst 1, 1) := by decide +kernel
theorem dL_law_75 : decode cL_law 75 = .ok (.iload 4, 2) := by decide +kernel
theorem dL_law_77 : decode cL_law 77 = .ok (.iadd, 1) := by decide +kernel
theorem dL_law_78 : decode cL_law 78 = .ok (.invokestatic 241, 3) := by decide +kernel
theorem dL_law_81 : decode cL_law 81 = .ok (.iconst 4, 1) := by decide +kernel
theorem dL_law_82 : decode cL_law 82 = .ok (.irem, 1) := by decide +kernel
theorem dL_law_83 : decode cL_law 83 = .ok (.invokevirtual 256, 3) := by decide +kernel
theorem cw_RL_256 : zCwV RL 256 mJ4_append_bf812 := zall [1353, 1354, 1355, 21, 1356] (by decide +kernel) (by decide +kernel)
theorem dL_law_86 : decode cL_law 86 = .ok (.bipush 32, 2) := by decide +kernel
theorem dL_law_88 : decode cL_law 88 = .ok (.invokevirtual 253, 3) := by decide +kernel
theorem dL_law_91 : decode cL_law 91 = .ok (.iload 5, 2) := by decide +kernel
theorem dL_law_93 : decode cL_law 93 = .ok (.invokevirtual 256, 3) := by decide +kernel
theorem dL_law_96 : decode cL_law 96 = .ok (.bipush 32, 2) := by decide +kernel
theorem dL_law_98 : decode cL_law 98 = .ok (.invokevirtual 253, 3) := by decide +kernel
theorem dL_law_101 : decode cL_law 101 = .ok (.iload 5, 2) := by decide +kernel
theorem dL_law_103 : decode cL_law 103 = .ok (.aload_n 0, 1) := by decide +kernel
theorem dL_law_104 : decode cL_law 104 = .ok (.bipush 9, 2) := by decide +kernel
theorem dL_law_106 : decode cL_law 106 = .ok (.iload 4, 2) := by decide +kernel
theorem dL_law_108 : decode cL_law 108 = .ok (.iadd, 1) := by decide +kernel
theorem dL_law_109 : decode cL_law 109 = .ok (.invokestatic 241, 3) := by decide +kernel
theorem dL_law_112 : decode cL_law 112 = .ok (.bipush 25, 2) := by decide +kernel
theorem dL_law_114 : decode cL_law 114 = .ok (.irem, 1) := by decide +kernel
theorem dL_law_115 : decode cL_law 115 = .ok (.iadd, 1) := by decide +kernel
theorem dL_law_116 : decode cL_law 116 = .ok (.invokevirtual 256, 3) := by decide +kernel
theorem dL_law_119 : decode cL_law 119 = .ok (.bipush 59, 2) := by decide +kernel
theorem dL_law_121 : decode cL_law 121 = .ok (.invokevirtual 253, 3) := by decide +kernel
theorem dL_law_124 : decode cL_law 124 = .ok (.pop, 1) := by decide +kernel
theorem dL_law_125 : decode cL_law 125 = .ok (.iinc 4 1, 3) := by decide +kernel
theorem dL_law_128 : decode cL_law 128 = .ok (.goto (-98), 3) := by decide +kernel
theorem dL_law_134 : decode cL_law 134 = .ok (.iload 4, 2) := by decide +kernel
theorem dL_law_136 : decode cL_law 136 = .ok (.aload_n 0, 1) := by decide +kernel
theorem dL_law_137 : decode cL_law 137 = .ok (.bipush 13, 2) := by decide +kernel
theorem dL_law_139 : decode cL_law 139 = .ok (.invokestatic 241, 3) := by decide +kernel
theorem dL_law_142 : decode cL_law 142 = .ok (.bipush 6, 2) := by decide +kernel
theorem dL_law_144 : decode cL_law 144 = .ok (.irem, 1) := by decide +kernel
theorem dL_law_145 : decode cL_law 145 = .ok (.if_icmp .ge 59, 3) := by decide +kernel
theorem dL_law_204 : decode cL_law 204 = .ok (.iconst 0, 1) := by decide +kernel
theorem dL_law_205 : decode cL_law 205 = .ok (.istore 4, 2) := by decide +kernel
theorem dL_law_148 : decode cL_law 148 = .ok (.aload_n 3, 1) := by decide +kernel
theorem dL_law_149 : decode cL_law 149 = .ok (.ldc_w 259, 3) := by decide +kernel
theorem dL_law_152 : decode cL_law 152 = .ok (.invokevirtual 250, 3) := by decide +kernel
theorem dL_law_155 : decode cL_law 155 = .ok (.bipush 97, 2) := by decide +kernel
theorem dL_law_157 : decode cL_law 157 = .ok (.aload_n 0, 1) := by decide +kernel
theorem dL_law_158 : decode cL_law 158 = .ok (.bipush 14, 2) := by decide +kernel
theorem dL_law_160 : decode cL_law 160 = .ok (.iload 4, 2) := by decide +kernel
theorem dL_law_162 : decode cL_law 162 = .ok (.iadd, 1) := by decide +kernel
theorem dL_law_163 : decode cL_law 163 = .ok (.invokestatic 241, 3) := by decide +kernel
theorem dL_law_166 : decode cL_law 166 = .ok (.iload_n 1, 1) := by decide +kernel
theorem dL_law_167 : decode cL_law 167 = .ok (.irem, 1) := by decide +kernel
theorem dL_law_168 : decode cL_law 168 = .ok (.iadd, 1) := by decide +kernel
theorem dL_law_169 : decode cL_law 169 = .ok (.i2c, 1) := by decide +kernel
theorem dL_law_170 : decode cL_law 170 = .ok (.invokevirtual 253, 3) := by decide +kernel
theorem dL_law_173 : decode cL_law 173 = .ok (.bipush 32, 2) := by decide +kernel
theorem dL_law_175 : decode cL_law 175 = .ok (.invokevirtual 253, 3) := by decide +kernel
theorem dL_law_178 : decode cL_law 178 = .ok (.aload_n 0, 1) := by decide +kernel
theorem dL_law_179 : decode cL_law 179 = .ok (.bipush 20, 2) := by decide +kernel
theorem dL_law_181 : decode cL_law 181 = .ok (.iload 4, 2) := by decide +kernel
theorem dL_law_183 : decode cL_law 183 = .ok (.iadd, 1) := by decide +kernel
theorem dL_law_184 : decode cL_law 184 = .ok (.invokestatic 241, 3) := by decide +kernel
theorem dL_law_187 : decode cL_law 187 = .ok (.iconst 5, 1) := by decide +kernel
theorem dL_law_188 : decode cL_law 188 = .ok (.irem, 1) := by decide +kernel
theorem dL_law_189 : decode cL_law 189 = .ok (.invokevirtual 256, 3) := by decide +kernel
theorem dL_law_192 : decode cL_law 192 = .ok (.bipush 59, 2) := by decide +kernel
theorem dL_law_194 : decode cL_law 194 = .ok (.invokevirtual 253, 3) := by decide +kernel
theorem dL_law_197 : decode cL_law 197 = .ok (.pop, 1) := by decide +kernel
theorem dL_law_198 : decode cL_law 198 = .ok (.iinc 4 1, 3) := by decide +kernel
theorem dL_law_201 : decode cL_law 201 = .ok (.goto (-67), 3) := by decide +kernel
theorem dL_law_207 : decode cL_law 207 = .ok (.iload 4, 2) := by decide +kernel
theorem dL_law_209 : decode cL_law 209 = .ok (.aload_n 0, 1) := by decide +kernel
theorem dL_law_210 : decode cL_law 210 = .ok (.bipush 33, 2) := by decide +kernel
theorem dL_law_212 : decode cL_law 212 = .ok (.invokestatic 241, 3) := by decide +kernel
theorem dL_law_215 : decode cL_law 215 = .ok (.bipush 6, 2) := by decide +kernel
theorem dL_law_217 : decode cL_law 217 = .ok (.irem, 1) := by decide +kernel
theorem dL_law_218 : decode cL_law 218 = .ok (.if_icmp .ge 59, 3) := by decide +kernel
theorem dL_law_277 : decode cL_law 277 = .ok (.iconst 0, 1) := by decide +kernel
theorem dL_law_278 : decode cL_law 278 = .ok (.istore 4, 2) := by decide +kernel
theorem dL_law_221 : decode cL_law 221 = .ok (.aload_n 3, 1) := by decide +kernel
theorem dL_law_222 : decode cL_law 222 = .ok (.ldc_w 261, 3) := by decide +kernel
theorem dL_law_225 : decode cL_law 225 = .ok (.invokevirtual 250, 3) := by decide +kernel
theorem dL_law_228 : decode cL_law 228 = .ok (.bipush 97, 2) := by decide +kernel
theorem dL_law_230 : decode cL_law 230 = .ok (.aload_n 0, 1) := by decide +kernel
theorem dL_law_231 : decode cL_law 231 = .ok (.bipush 34, 2) := by decide +kernel
theorem dL_law_233 : decode cL_law 233 = .ok (.iload 4, 2) := by decide +kernel
theorem dL_law_235 : decode cL_law 235 = .ok (.iadd, 1) := by decide +kernel
theorem dL_law_236 : decode cL_law 236 = .ok (.invokestatic 241, 3) := by decide +kernel
theorem dL_law_239 : decode cL_law 239 = .ok (.iload_n 1, 1) := by decide +kernel
theorem dL_law_240 : decode cL_law 240 = .ok (.irem, 1) := by decide +kernel
theorem dL_law_241 : decode cL_law 241 = .ok (.iadd, 1) := by decide +kernel
theorem dL_law_242 : decode cL_law 242 = .ok (.i2c, 1) := by decide +kernel
theorem dL_law_243 : decode cL_law 243 = .ok (.invokevirtual 253, 3) := by decide +kernel
theorem dL_law_246 : decode cL_law 246 = .ok (.bipush 32, 2) := by decide +kernel
theorem dL_law_248 : decode cL_law 248 = .ok (.invokevirtual 253, 3) := by decide +kernel
theorem dL_law_251 : decode cL_law 251 = .ok (.aload_n 0, 1) := by decide +kernel
theorem dL_law_252 : decode cL_law 252 = .ok (.bipush 40, 2) := by decide +kernel
theorem dL_law_254 : decode cL_law 254 = .ok (.iload 4, 2) := by decide +kernel
theorem dL_law_256 : decode cL_law 256 = .ok (.iadd, 1) := by decide +kernel
theorem dL_law_257 : decode cL_law 257 = .ok (.invokestatic 241, 3) := by decide +kernel
theorem dL_law_260 : decode cL_law 260 = .ok (.iconst 4, 1) := by decide +kernel
theorem dL_law_261 : decode cL_law 261 = .ok (.irem, 1) := by decide +kernel
theorem dL_law_262 : decode cL_law 262 = .ok (.invokevirtual 256, 3) := by decide +kernel
theorem dL_law_265 : decode cL_law 265 = .ok (.bipush 59, 2) := by decide +kernel
theorem dL_law_267 : decode cL_law 267 = .ok (.invokevirtual 253, 3) := by decide +kernel
theorem dL_law_270 : decode cL_law 270 = .ok (.pop, 1) := by decide +kernel
theorem dL_law_271 : decode cL_law 271 = .ok (.iinc 4 1, 3) := by decide +kernel
theorem dL_law_274 : decode cL_law 274 = .ok (.goto (-67), 3) := by decide +kernel
theorem dL_law_280 : decode cL_law 280 = .ok (.iload 4, 2) := by decide +kernel
theorem dL_law_282 : decode cL_law 282 = .ok (.iload_n 2, 1) := by decide +kernel
theorem dL_law_283 : decode cL_law 283 = .ok (.if_icmp .ge 65, 3) := by decide +kernel
theorem dL_law_286 : decode cL_law 286 = .ok (.aload_n 3, 1) := by decide +kernel
theorem dL_law_287 : decode cL_law 287 = .ok (.ldc_w 263, 3) := by decide +kernel
theorem dL_law_290 : decode cL_law 290 = .ok (.invokevirtual 250, 3) := by decide +kernel
theorem dL_law_293 : decode cL_law 293 = .ok (.sipush 1500, 3) := by decide +kernel
theorem dL_law_296 : decode cL_law 296 = .ok (.aload_n 0, 1) := by decide +kernel
theorem dL_law_297 : decode cL_law 297 = .ok (.bipush 47, 2) := by decide +kernel
theorem dL_law_299 : decode cL_law 299 = .ok (.iload 4, 2) := by decide +kernel
theorem dL_law_301 : decode cL_law 301 = .ok (.iadd, 1) := by decide +kernel
theorem dL_law_302 : decode cL_law 302 = .ok (.invokestatic 241, 3) := by decide +kernel
theorem dL_law_305 : decode cL_law 305 = .ok (.bipush 30, 2) := by decide +kernel
theorem dL_law_307 : decode cL_law 307 = .ok (.irem, 1) := by decide +kernel
theorem dL_law_308 : decode cL_law 308 = .ok (.iadd, 1) := by decide +kernel
theorem dL_law_309 : decode cL_law 309 = .ok (.invokevirtual 256, 3) := by decide +kernel
theorem dL_law_312 : decode cL_law 312 = .ok (.bipush 32, 2) := by decide +kernel
theorem dL_law_314 : decode cL_law 314 = .ok (.invokevirtual 253, 3) := by decide +kernel
theorem dL_law_317 : decode cL_law 317 = .ok (.sipush 1530, 3) := by decide +kernel
theorem dL_law_320 : decode cL_law 320 = .ok (.aload_n 0, 1) := by decide +kernel
theorem dL_law_321 : decode cL_law 321 = .ok (.bipush 50, 2) := by decide +kernel
theorem dL_law_323 : decode cL_law 323 = .ok (.iload 4, 2) := by decide +kernel
theorem dL_law_325 : decode cL_law 325 = .ok (.iadd, 1) := by decide +kernel
theorem dL_law_326 : decode cL_law 326 = .ok (.invokestatic 241, 3) := by decide +kernel
theorem dL_law_329 : decode cL_law 329 = .ok (.bipush 6, 2) := by decide +kernel
theorem dL_law_331 : decode cL_law 331 = .ok (.irem, 1) := by decide +kernel
theorem dL_law_332 : decode cL_law 332 = .ok (.iadd, 1) := by decide +kernel
theorem dL_law_333 : decode cL_law 333 = .ok (.invokevirtual 256, 3) := by decide +kernel
theorem dL_law_336 : decode cL_law 336 = .ok (.bipush 59, 2) := by decide +kernel
theorem dL_law_338 : decode cL_law 338 = .ok (.invokevirtual 253, 3) := by decide +kernel
theorem dL_law_341 : decode cL_law 341 = .ok (.pop, 1) := by decide +kernel
theorem dL_law_342 : decode cL_law 342 = .ok (.iinc 4 1, 3) := by decide +kernel
theorem dL_law_345 : decode cL_law 345 = .ok (.goto (-65), 3) := by decide +kernel
theorem dL_law_0 : decode cL_law 0 = .ok (.iconst 1, 1) := by decide +kernel
theorem dL_law_1 : decode cL_law 1 = .ok (.aload_n 0, 1) := by decide +kernel
theorem dL_law_2 : decode cL_law 2 = .ok (.iconst 0, 1) := by decide +kernel
theorem dL_law_3 : decode cL_law 3 = .ok (.invokestatic 241, 3) := by decide +kernel
theorem dL_law_6 : decode cL_law 6 = .ok (.iconst 4, 1) := by decide +kernel
theorem dL_law_7 : decode cL_law 7 = .ok (.irem, 1) := by decide +kernel
theorem dL_law_8 : decode cL_law 8 = .ok (.iadd, 1) := by decide +kernel
theorem dL_law_9 : decode cL_law 9 = .ok (.istore_n 1, 1) := by decide +kernel
theorem dL_law_10 : decode cL_law 10 = .ok (.aload_n 0, 1) := by decide +kernel
theorem dL_law_11 : decode cL_law 11 = .ok (.bipush 46, 2) := by decide +kernel
theorem dL_law_13 : decode cL_law 13 = .ok (.invokestatic 241, 3) := by decide +kernel
theorem dL_law_16 : decode cL_law 16 = .ok (.iconst 3, 1) := by decide +kernel
theorem dL_law_17 : decode cL_law 17 = .ok (.irem, 1) := by decide +kernel
theorem dL_law_18 : decode cL_law 18 = .ok (.istore_n 2, 1) := by decide +kernel
theorem dL_law_19 : decode cL_law 19 = .ok (.new 245, 3) := by decide +kernel
theorem kn_RL_245 : Cond.classLink RL 245 RJ4 ∈ zgood := zmem1 1215 (by decide +kernel) rfl
theorem kin_10 : Cond.instantiable RJ4 4 ∈ zgood := zmem1 1216 (by decide +kernel) rfl
theorem kii_10 : Cond.initialized RJ4 ∈ zgood := zmem1 21 (by decide +kernel) rfl
theorem kfs_10 : ∀ ty : Nat → FieldType, (∀ k, k < 4 → parseFieldDescriptor (TJ4 k).2.2.1 = some (ty k)) → ∀ j, j < 4 → defaultValue (ty j) = vp_V [.null, .int 0, .int 0, .int 0] j := fun ty h j hj => by
  have h2 := (tyJ4_ok j hj).symm.trans (h j hj)
  rw [← Option.some.inj h2]
  rcases (by omega : j = 0 ∨ j = 1 ∨ j = 2 ∨ j = 3) with rfl | rfl | rfl | rfl <;> rfl
theorem dL_law_22 : decode cL_law 22 = .ok (.dup, 1) := by decide +kernel
theorem dL_law_23 : decode cL_law 23 = .ok (.invokespecial 247, 3) := by decide +kernel
theorem ck_RL_247 : ∀ x ∈ ([.methodLink RL 247 yJ4_init_da8c8, .instanceMethod yJ4_init_da8c8, .initialized (yJ4_init_da8c8).cls, .code yJ4_init_da8c8 cJ4_init_da8c8 1 none] : List Cond), x ∈ zgood := zall [1217, 1218, 21, 1219] (by decide +kernel) (by decide +kernel)
theorem dL_law_26 : decode cL_law 26 = .ok (.astore_n 3, 1) := by decide +kernel
theorem dL_law_27 : decode cL_law 27 = .ok (.iconst 0, 1) := by decide +kernel
theorem dL_law_28 : decode cL_law 28 = .ok (.istore 4, 2) := by decide +kernel
/-! ===== the law, up to the text ===== -/
abbrev mL_law (hh : List (Nat × Nat × Nat × Nat)) : zM := (yL_law, cL_law, 14, ret, hh)
section K95
variable {l : Launch} {w : zW} {m : zM} {M : zMo} {ini : Bool} {pc : Nat} {ls st : List zV} {E : List va_E}
/-- one call of append, with what it costs put in rounds -/
theorem kk_app {m' : zM} {ix np b mm c Bd : Nat} {L K : List Int} (as : List zV) (hB : BS w E 0 b mm L) (hm : mm ≤ 1300) (hL : L.length + c ≤ 600) (hE : E.length ≤ Bd ∧ Bd ≤ 300) (hsp : kSp l w m' 6 (kn (L.length + c) mm) (kcp (L.length + c) mm) (zV0 (zB w + 0) :: as) E (some (zV0 (zB w + 0))) (fun E' => BS w E' 0 (kbx E b (L.length + c) mm) (kcp (L.length + c) mm) (L ++ K) ∧ ∀ j, j < E.length → j ≠ 0 → j ≠ b → E'[j]? = E[j]?)) (hK : K.length = c) (hcl : RJ4 = m'.1.cls) (hd : decode m.2.1 pc = .ok (.invokevirtual ix, 3)) (hw : zCwV m.1.cls ix m') (hmk : zMok m' np) (hnp : as.length = np) (hst : (st.map zcat).sum ≤ 8) (hf : 7 ≤ M.1.frames ∧ 8 + (m'.2.2.1 + 11) + 34 * 6 ≤ M.1.locals ∧ 400 ≤ M.1.cells ∧ 800000 ≤ M.1.slots) (kk : ∀ (E' : List va_E) (b' mm' : Nat), BS w E' 0 b' mm' (L ++ K) → mm' ≤ 1300 → E'.length ≤ Bd + 1 → (L ++ K).length = L.length + c → zK l w m M ini (pc + 3) ls (zV0 (zB w + 0) :: st) E'.length (2000 * (Bd + 1)) E') : zK l w m M ini pc ls (as.reverse ++ zV0 (zB w + 0) :: st) E.length (2000 * Bd) E := by
  have h1 := kcp_le (q := L.length + c) hL hm
  have h2 := kn_le (L.length + c) mm
  have he := hB.1
  have hlt := (List.getElem?_eq_some_iff.mp he).1
  refine kk_callV as hsp rfl he (show (vwCl[10]?).map (fun q => q.1) = some m'.1.cls by rw [← hcl]; rfl) hd hw hmk hnp hst ⟨hf.1, hf.2.1, by omega, by omega⟩ (fun q => by rw [q] at hlt; exact absurd hlt (Nat.not_lt_zero _)) (fun x q => by cases q; trivial) (fun E' hP z => ?_)
  rw [← z]
  exact kk_wide (ks' := 2000 * (Bd + 1)) (by omega) (kk E' _ _ hP.1 h1 (by omega) (by rw [List.length_append, hK]))
end K95
theorem kcell_ok (v : zW) (x : Int) : ∀ a ∈ [zf 101 0, zi x], zok v a := fun a ha => by
  rcases List.mem_cons.mp ha with rfl | ha
  · exact Or.inr (Or.inl (Or.inl rfl))
  · rcases List.mem_singleton.mp ha with rfl
    exact trivial
def kp9 : List Int := [112, 114, 105, 110, 116, 101, 114, 32, 112]
def kd8 : List Int := [100, 101, 118, 105, 99, 101, 32, 112]
def kt6 : List Int := [116, 121, 112, 101, 32, 112]
def km5 : List Int := [109, 97, 114, 107, 32]
theorem kt_n : ∀ i, i < 32 → ∀ x ∈ zsbyt.getD i [], fits .byte (.int x) = true := by decide +kernel
theorem kt_by {j : Nat} (hj : j < 32) : kBy (fun i => (zsbyt.getD j []).getD i 0) := fun i => by
  show fits .byte (.int ((zsbyt.getD j []).getD i 0)) = true
  by_cases h : i < (zsbyt.getD j []).length
  · rw [List.getD_eq_getElem?_getD, List.getElem?_eq_getElem h]
    exact kt_n j hj _ (List.getElem_mem h)
  · rw [List.getD_eq_getElem?_getD, List.getElem?_eq_none (by omega)]
    rfl
theorem kp9_b : ∀ i, i < kp9.length → (zsbyt.getD 28 []).getD i 0 = Int32.ofInt (kp9.getD i 0) := by decide +kernel
theorem kd8_b : ∀ i, i < kd8.length → (zsbyt.getD 29 []).getD i 0 = Int32.ofInt (kd8.getD i 0) := by decide +kernel
theorem kt6_b : ∀ i, i < kt6.length → (zsbyt.getD 30 []).getD i 0 = Int32.ofInt (kt6.getD i 0) := by decide +kernel
theorem km5_b : ∀ i, i < km5.length → (zsbyt.getD 31 []).getD i 0 = Int32.ofInt (km5.getD i 0) := by decide +kernel
theorem txP_app {L : List Int} {k : Nat} {c a b : Int} (hc : 0 ≤ c ∧ c ≤ 9) : ((((((((L ++ kp9) ++ [97 + (k : Int)]) ++ [32]) ++ [48 + c % 10]) ++ [32]) ++ d4 a) ++ [32]) ++ d4 b) ++ [59] = L ++ txP k c a b := by
  rw [show c % 10 = c by omega]
  simp [txP, woP, kp9]
theorem txD_app {L : List Int} {x v : Int} (hv : 0 ≤ v ∧ v ≤ 9) : ((((L ++ kd8) ++ [97 + x]) ++ [32]) ++ [48 + v % 10]) ++ [59] = L ++ txO woD x v := by
  rw [show v % 10 = v by omega]
  simp [txO, woD, kd8]
theorem txT_app {L : List Int} {x v : Int} (hv : 0 ≤ v ∧ v ≤ 9) : ((((L ++ kt6) ++ [97 + x]) ++ [32]) ++ [48 + v % 10]) ++ [59] = L ++ txO woT x v := by
  rw [show v % 10 = v by omega]
  simp [txO, woT, kt6]
theorem txM_app {L : List Int} {a b : Int} : (((L ++ km5) ++ d4 a) ++ [32]) ++ d4 b ++ [59] = L ++ txM a b := by
  simp [txM, woM, km5]
/-- the letters so far are letters -/
def LT (L : List Int) : Prop := ∀ x ∈ L, 0 ≤ x ∧ x < 128
theorem LT_0 : LT [] := fun x h => by cases h
theorem LT_a {L K : List Int} (h : LT L) (h2 : LT K) : LT (L ++ K) := fun x hx => (List.mem_append.mp hx).elim (h x) (h2 x)
theorem LT_g {L : List Int} (h : LT L) (q : Nat) : 0 ≤ L.getD q 0 ∧ L.getD q 0 < 128 := by
  by_cases c : q < L.length
  · rw [List.getD_eq_getElem?_getD, List.getElem?_eq_getElem c]
    exact h _ (List.getElem_mem c)
  · rw [kgd (by omega)]; omega
theorem LT_d4 {v : Int} (h : 1000 ≤ v ∧ v < 10000) : LT (d4 v) := fun x hx => by
  simp only [d4, List.mem_cons, List.not_mem_nil, or_false] at hx
  rcases hx with rfl | rfl | rfl | rfl <;> omega
theorem LT_P {k : Nat} {c a b : Int} (hk : k ≤ 25) (hc : 0 ≤ c ∧ c ≤ 9) (ha : 1000 ≤ a ∧ a < 10000) (hb : 1000 ≤ b ∧ b < 10000) : LT (txP k c a b) := fun x hx => by
  have h1 := LT_d4 ha x
  have h2 := LT_d4 hb x
  simp only [txP, woP, List.cons_append, List.nil_append, List.mem_cons, List.mem_append, List.not_mem_nil, or_false] at hx
  rcases hx with hx | hx | hx | hx | hx | hx | hx | hx | hx | hx | hx | hx | hx | hx | hx | hx | hx <;> first | exact h1 hx | exact h2 hx | omega
theorem LT_O {ws : List Int} {x v : Int} (hw : ∀ y ∈ ws, 97 ≤ y ∧ y ≤ 122) (hx : 0 ≤ x ∧ x ≤ 25) (hv : 0 ≤ v ∧ v ≤ 9) : LT (txO ws x v) := fun y hy => by
  have h1 := hw y
  simp only [txO, List.mem_cons, List.mem_append, List.not_mem_nil, or_false] at hy
  rcases hy with hy | hy | hy | hy | hy | hy | hy
  · have := h1 hy; omega
  all_goals omega
theorem LT_M {a b : Int} (ha : 1000 ≤ a ∧ a < 10000) (hb : 1000 ≤ b ∧ b < 10000) : LT (txM a b) := fun x hx => by
  have h1 := LT_d4 ha x
  have h2 := LT_d4 hb x
  simp only [txM, woM, List.cons_append, List.nil_append, List.mem_cons, List.mem_append, List.not_mem_nil, or_false] at hx
  rcases hx with hx | hx | hx | hx | hx | hx | hx | hx | hx <;> first | exact h1 hx | exact h2 hx | omega
theorem txP_l {k : Nat} {c a b : Int} : (txP k c a b).length = 23 := rfl
theorem txM_l {a b : Int} : (txM a b).length = 15 := rfl

set_option maxRecDepth 20000 in
set_option maxHeartbeats 4000000 in
theorem lA_p {l : Launch} {w : zW} (hfl : l.stackTraces = false) {hh : List (Nat × Nat × Nat × Nat)} {Z : List Frame → Array Value → State → State → Prop} (hSL : zSL w ≤ 260) {P Q : Nat} (hP : 1 ≤ P ∧ P ≤ 4) (hQ : Q ≤ 2) (K : ∀ (E : List va_E) (b mm : Nat) (L : List Int), BS w E 0 b mm L → mm ≤ 1300 → E.length ≤ 38 → L.length ≤ 92 → LT L → GL 1 P 0 L → zK l w (mL_law hh) (room_1, Z, 0, 0) false 134 [zV0 (zSb w), zi ((P : Nat) : Int), zi ((Q : Nat) : Int), zV0 (zB w + 0), zi 0, zu, zu, zu, zu, zu, zu, zu, zu, zu] [] E.length (2000 * 38) E) : ∀ (N q : Nat) (E : List va_E) (b mm : Nat) (L : List Int), q ≤ P → BS w E 0 b mm L → mm ≤ 1300 → E.length ≤ 2 + 9 * q → L.length ≤ 0 + 23 * q → LT L → GL 0 q 0 L → P + 1 - q < N → zK l w (mL_law hh) (room_1, Z, 0, 0) false 30 [zV0 (zSb w), zi ((P : Nat) : Int), zi ((Q : Nat) : Int), zV0 (zB w + 0), zi ((q : Nat) : Int), zu, zu, zu, zu, zu, zu, zu, zu, zu] [] E.length (2000 * (2 + 9 * q)) E := by
  intro N
  induction N with
  | zero => intro q E b mm L _ _ _ _ _ _ _ h; exact absurd h (Nat.not_lt_zero _)
  | succ N ih =>
    intro q E b mm L hq hB hm hE hl hT hG hN
    refine kk_iload dL_law_30 rfl ?_
    refine kk_iloadN dL_law_32 rfl rfl ?_
    refine kk_icmp_ge (tgt := 131) (by first | assumption | (unfold zr at *; omega)) (by first | assumption | (unfold zr at *; omega)) dL_law_33 (by decide) (fun h33 => ?_) (fun h33 => ?_)
    · refine kk_iconst dL_law_131 ?_
      refine kj_istore [zV0 (zSb w), zi ((P : Nat) : Int), zi ((Q : Nat) : Int), zV0 (zB w + 0), zi 0, zu, zu, zu, zu, zu, zu, zu, zu, zu] dL_law_132 (Nat.le_of_ble_eq_true rfl) (Nat.le_of_ble_eq_true rfl) rfl rfl ?_
      refine kk_wide (ks' := 2000 * 38) (by omega) ?_
      exact K E b mm L hB hm (by omega) (by omega) hT (GL_up (by rw [show P = q by omega]; exact hG) (by omega))
    · refine kk_sipush dL_law_36 rfl ?_
      refine kk_aloadN dL_law_39 rfl rfl ?_
      refine kk_iconst dL_law_40 ?_
      refine kk_iload dL_law_41 rfl ?_
      refine kk_iadd dL_law_43 ?_
      refine kk_callX0 [zf 101 0, zi (5 + ((q : Nat) : Int))] [zV0 (zSb w), zi (5 + ((q : Nat) : Int))] (sL_cell (σ := zσ0) (x := 5 + ((q : Nat) : Int)) hfl zs_z (by omega) hSL) rfl (kcell_ok _ _) dL_law_44 cw_RL_241 okL_cell rfl (Nat.le_of_ble_eq_true rfl) ⟨Nat.le_of_ble_eq_true rfl, Nat.le_of_ble_eq_true rfl, by show E.length + 0 ≤ 600086; omega, by show 2000 * (2 + 9 * q) + 0 ≤ 7301442; omega⟩ rfl (fun x q => by cases q; trivial) ?_
      refine kj_top (b := zcl w (5 + ((q : Nat) : Int))) rfl ?_
      have hc44 := zcl_b w (5 + ((q : Nat) : Int))
      refine kk_bipush dL_law_47 rfl ?_
      refine kk_irem (by omega) (by omega) (by omega) (by omega) dL_law_49 ?_
      refine kk_iadd dL_law_50 ?_
      refine kj_istore [zV0 (zSb w), zi ((P : Nat) : Int), zi ((Q : Nat) : Int), zV0 (zB w + 0), zi ((q : Nat) : Int), zi (1500 + ((zcl w (5 + ((q : Nat) : Int))) % 25)), zu, zu, zu, zu, zu, zu, zu, zu] dL_law_51 (Nat.le_of_ble_eq_true rfl) (Nat.le_of_ble_eq_true rfl) rfl rfl ?_
      refine kk_aloadN dL_law_53 rfl rfl ?_
      refine kk_ldcS (List.mem_of_getElem? (i := 31) rfl) (by decide) dL_law_54 ?_
      refine kk_app (c := 9) (K := kp9) (Bd := 2 + 9 * q) [zf 100 28] hB hm (by omega) ⟨hE, by omega⟩ (kAppS (K := kp9) hfl hB (by decide) kp9_b (kt_by (by decide)) ⟨by show _ + 9 ≤ 600; omega, hm⟩) rfl rfl dL_law_56 cw_RL_250 okJ4_append_15ec4 rfl (Nat.le_of_ble_eq_true rfl) ⟨Nat.le_of_ble_eq_true rfl, Nat.le_of_ble_eq_true rfl, Nat.le_of_ble_eq_true rfl, Nat.le_of_ble_eq_true rfl⟩ (fun E56 b56 m56 hB56 hm56 hE56 hl56 => ?_)
      refine kk_bipush dL_law_59 rfl ?_
      refine kk_iload dL_law_61 rfl ?_
      refine kk_iadd dL_law_63 ?_
      refine kk_i2c dL_law_64 ?_
      refine kj_top (b := 97 + ((q : Nat) : Int)) ((kch_v ⟨by omega, by omega⟩).1) ?_
      refine kk_app (c := 1) (K := [97 + ((q : Nat) : Int)]) (Bd := 2 + 9 * q + 1) [zi (97 + ((q : Nat) : Int))] hB56 hm56 (by omega) ⟨hE56, by omega⟩ (kAppC hfl hB56 (by omega) ⟨by omega, hm56⟩) rfl rfl dL_law_65 cw_RL_253 okJ4_append_cf468 rfl (Nat.le_of_ble_eq_true rfl) ⟨Nat.le_of_ble_eq_true rfl, Nat.le_of_ble_eq_true rfl, Nat.le_of_ble_eq_true rfl, Nat.le_of_ble_eq_true rfl⟩ (fun E65 b65 m65 hB65 hm65 hE65 hl65 => ?_)
      refine kk_bipush dL_law_68 rfl ?_
      refine kk_app (c := 1) (K := [32]) (Bd := 2 + 9 * q + 1 + 1) [zi 32] hB65 hm65 (by omega) ⟨hE65, by omega⟩ (kAppC hfl hB65 (by omega) ⟨by omega, hm65⟩) rfl rfl dL_law_70 cw_RL_253 okJ4_append_cf468 rfl (Nat.le_of_ble_eq_true rfl) ⟨Nat.le_of_ble_eq_true rfl, Nat.le_of_ble_eq_true rfl, Nat.le_of_ble_eq_true rfl, Nat.le_of_ble_eq_true rfl⟩ (fun E70 b70 m70 hB70 hm70 hE70 hl70 => ?_)
      refine kk_aloadN dL_law_73 rfl rfl ?_
      refine kk_iconst dL_law_74 ?_
      refine kk_iload dL_law_75 rfl ?_
      refine kk_iadd dL_law_77 ?_
      refine kk_callX0 [zf 101 0, zi (1 + ((q : Nat) : Int))] [zV0 (zSb w), zi (1 + ((q : Nat) : Int))] (sL_cell (σ := zσ0) (x := 1 + ((q : Nat) : Int)) hfl zs_z (by omega) hSL) rfl (kcell_ok _ _) dL_law_78 cw_RL_241 okL_cell rfl (Nat.le_of_ble_eq_true rfl) ⟨Nat.le_of_ble_eq_true rfl, Nat.le_of_ble_eq_true rfl, by show E70.length + 0 ≤ 600086; omega, by show 2000 * (2 + 9 * q + 1 + 1 + 1) + 0 ≤ 7301442; omega⟩ rfl (fun x q => by cases q; trivial) ?_
      refine kj_top (b := zcl w (1 + ((q : Nat) : Int))) rfl ?_
      have hc78 := zcl_b w (1 + ((q : Nat) : Int))
      refine kk_iconst dL_law_81 ?_
      refine kk_irem (by omega) (by omega) (by omega) (by omega) dL_law_82 ?_
      refine kk_app (c := 1) (K := [48 + ((zcl w (1 + ((q : Nat) : Int))) % 4) % 10]) (Bd := 2 + 9 * q + 1 + 1 + 1) [zi ((zcl w (1 + ((q : Nat) : Int))) % 4)] hB70 hm70 (by omega) ⟨hE70, by omega⟩ (kAppI_1 hfl hB70 (by omega) ⟨by omega, hm70⟩) rfl rfl dL_law_83 cw_RL_256 okJ4_append_bf812 rfl (Nat.le_of_ble_eq_true rfl) ⟨Nat.le_of_ble_eq_true rfl, Nat.le_of_ble_eq_true rfl, Nat.le_of_ble_eq_true rfl, Nat.le_of_ble_eq_true rfl⟩ (fun E83 b83 m83 hB83 hm83 hE83 hl83 => ?_)
      refine kk_bipush dL_law_86 rfl ?_
      refine kk_app (c := 1) (K := [32]) (Bd := 2 + 9 * q + 1 + 1 + 1 + 1) [zi 32] hB83 hm83 (by omega) ⟨hE83, by omega⟩ (kAppC hfl hB83 (by omega) ⟨by omega, hm83⟩) rfl rfl dL_law_88 cw_RL_253 okJ4_append_cf468 rfl (Nat.le_of_ble_eq_true rfl) ⟨Nat.le_of_ble_eq_true rfl, Nat.le_of_ble_eq_true rfl, Nat.le_of_ble_eq_true rfl, Nat.le_of_ble_eq_true rfl⟩ (fun E88 b88 m88 hB88 hm88 hE88 hl88 => ?_)
      refine kk_iload dL_law_91 rfl ?_
      refine kk_app (c := 4) (K := d4 (1500 + ((zcl w (5 + ((q : Nat) : Int))) % 25))) (Bd := 2 + 9 * q + 1 + 1 + 1 + 1 + 1) [zi (1500 + ((zcl w (5 + ((q : Nat) : Int))) % 25))] hB88 hm88 (by omega) ⟨hE88, by omega⟩ (kAppI_4 hfl hB88 (by omega) ⟨by omega, hm88⟩) rfl rfl dL_law_93 cw_RL_256 okJ4_append_bf812 rfl (Nat.le_of_ble_eq_true rfl) ⟨Nat.le_of_ble_eq_true rfl, Nat.le_of_ble_eq_true rfl, Nat.le_of_ble_eq_true rfl, Nat.le_of_ble_eq_true rfl⟩ (fun E93 b93 m93 hB93 hm93 hE93 hl93 => ?_)
      refine kk_bipush dL_law_96 rfl ?_
      refine kk_app (c := 1) (K := [32]) (Bd := 2 + 9 * q + 1 + 1 + 1 + 1 + 1 + 1) [zi 32] hB93 hm93 (by omega) ⟨hE93, by omega⟩ (kAppC hfl hB93 (by omega) ⟨by omega, hm93⟩) rfl rfl dL_law_98 cw_RL_253 okJ4_append_cf468 rfl (Nat.le_of_ble_eq_true rfl) ⟨Nat.le_of_ble_eq_true rfl, Nat.le_of_ble_eq_true rfl, Nat.le_of_ble_eq_true rfl, Nat.le_of_ble_eq_true rfl⟩ (fun E98 b98 m98 hB98 hm98 hE98 hl98 => ?_)
      refine kk_iload dL_law_101 rfl ?_
      refine kk_aloadN dL_law_103 rfl rfl ?_
      refine kk_bipush dL_law_104 rfl ?_
      refine kk_iload dL_law_106 rfl ?_
      refine kk_iadd dL_law_108 ?_
      refine kk_callX0 [zf 101 0, zi (9 + ((q : Nat) : Int))] [zV0 (zSb w), zi (9 + ((q : Nat) : Int))] (sL_cell (σ := zσ0) (x := 9 + ((q : Nat) : Int)) hfl zs_z (by omega) hSL) rfl (kcell_ok _ _) dL_law_109 cw_RL_241 okL_cell rfl (Nat.le_of_ble_eq_true rfl) ⟨Nat.le_of_ble_eq_true rfl, Nat.le_of_ble_eq_true rfl, by show E98.length + 0 ≤ 600086; omega, by show 2000 * (2 + 9 * q + 1 + 1 + 1 + 1 + 1 + 1 + 1) + 0 ≤ 7301442; omega⟩ rfl (fun x q => by cases q; trivial) ?_
      refine kj_top (b := zcl w (9 + ((q : Nat) : Int))) rfl ?_
      have hc109 := zcl_b w (9 + ((q : Nat) : Int))
      refine kk_bipush dL_law_112 rfl ?_
      refine kk_irem (by omega) (by omega) (by omega) (by omega) dL_law_114 ?_
      refine kk_iadd dL_law_115 ?_
      refine kk_app (c := 4) (K := d4 ((1500 + ((zcl w (5 + ((q : Nat) : Int))) % 25)) + ((zcl w (9 + ((q : Nat) : Int))) % 25))) (Bd := 2 + 9 * q + 1 + 1 + 1 + 1 + 1 + 1 + 1) [zi ((1500 + ((zcl w (5 + ((q : Nat) : Int))) % 25)) + ((zcl w (9 + ((q : Nat) : Int))) % 25))] hB98 hm98 (by omega) ⟨hE98, by omega⟩ (kAppI_4 hfl hB98 (by omega) ⟨by omega, hm98⟩) rfl rfl dL_law_116 cw_RL_256 okJ4_append_bf812 rfl (Nat.le_of_ble_eq_true rfl) ⟨Nat.le_of_ble_eq_true rfl, Nat.le_of_ble_eq_true rfl, Nat.le_of_ble_eq_true rfl, Nat.le_of_ble_eq_true rfl⟩ (fun E116 b116 m116 hB116 hm116 hE116 hl116 => ?_)
      refine kk_bipush dL_law_119 rfl ?_
      refine kk_app (c := 1) (K := [59]) (Bd := 2 + 9 * q + 1 + 1 + 1 + 1 + 1 + 1 + 1 + 1) [zi 59] hB116 hm116 (by omega) ⟨hE116, by omega⟩ (kAppC hfl hB116 (by omega) ⟨by omega, hm116⟩) rfl rfl dL_law_121 cw_RL_253 okJ4_append_cf468 rfl (Nat.le_of_ble_eq_true rfl) ⟨Nat.le_of_ble_eq_true rfl, Nat.le_of_ble_eq_true rfl, Nat.le_of_ble_eq_true rfl, Nat.le_of_ble_eq_true rfl⟩ (fun E121 b121 m121 hB121 hm121 hE121 hl121 => ?_)
      refine kk_pop rfl dL_law_124 ?_
      refine kj_iinc (b := ((q + 1 : Nat) : Int)) [zV0 (zSb w), zi ((P : Nat) : Int), zi ((Q : Nat) : Int), zV0 (zB w + 0), zi ((q + 1 : Nat) : Int), zi (1500 + ((zcl w (5 + ((q : Nat) : Int))) % 25)), zu, zu, zu, zu, zu, zu, zu, zu] dL_law_125 rfl (by omega) (Nat.le_of_ble_eq_true rfl) rfl rfl ?_
      refine kk_goto (tgt := 30) dL_law_128 (by decide) ?_
      refine kj_drop 5 [zV0 (zSb w), zi ((P : Nat) : Int), zi ((Q : Nat) : Int), zV0 (zB w + 0), zi ((q + 1 : Nat) : Int), zu, zu, zu, zu, zu, zu, zu, zu, zu] rfl ?_
      refine kk_wide (ks' := 2000 * (2 + 9 * (q + 1))) (by omega) ?_
      have e := txP_app (L := L) (k := q) (c := zcl w (1 + ((q : Nat) : Int)) % 4) (a := 1500 + zcl w (5 + ((q : Nat) : Int)) % 25) (b := (1500 + zcl w (5 + ((q : Nat) : Int)) % 25) + (zcl w (9 + ((q : Nat) : Int)) % 25)) (by omega)
      exact ih (q + 1) _ _ _ (L ++ txP q (zcl w (1 + ((q : Nat) : Int)) % 4) (1500 + zcl w (5 + ((q : Nat) : Int)) % 25) ((1500 + zcl w (5 + ((q : Nat) : Int)) % 25) + (zcl w (9 + ((q : Nat) : Int)) % 25))) (by omega) (by rw [← e]; exact hB121) hm121 (by omega) (by rw [List.length_append, txP_l]; omega) (LT_a hT (LT_P (by omega) (by omega) (by omega) (by omega))) (GL_P hG (by omega) (by omega) (by omega)) (by omega)
set_option maxRecDepth 20000 in
set_option maxHeartbeats 4000000 in
theorem lA_d {l : Launch} {w : zW} (hfl : l.stackTraces = false) {hh : List (Nat × Nat × Nat × Nat)} {Z : List Frame → Array Value → State → State → Prop} (hSL : zSL w ≤ 260) {P Q : Nat} (hP : 1 ≤ P ∧ P ≤ 4) (hQ : Q ≤ 2) (K : ∀ (E : List va_E) (b mm : Nat) (L : List Int), BS w E 0 b mm L → mm ≤ 1300 → E.length ≤ 63 → L.length ≤ 152 → LT L → GL 2 P 0 L → zK l w (mL_law hh) (room_1, Z, 0, 0) false 207 [zV0 (zSb w), zi ((P : Nat) : Int), zi ((Q : Nat) : Int), zV0 (zB w + 0), zi 0, zu, zu, zu, zu, zu, zu, zu, zu, zu] [] E.length (2000 * 63) E) : ∀ (N q : Nat) (E : List va_E) (b mm : Nat) (L : List Int), q ≤ 5 → BS w E 0 b mm L → mm ≤ 1300 → E.length ≤ 38 + 5 * q → L.length ≤ 92 + 12 * q → LT L → GL 1 P 0 L → 5 + 1 - q < N → zK l w (mL_law hh) (room_1, Z, 0, 0) false 134 [zV0 (zSb w), zi ((P : Nat) : Int), zi ((Q : Nat) : Int), zV0 (zB w + 0), zi ((q : Nat) : Int), zu, zu, zu, zu, zu, zu, zu, zu, zu] [] E.length (2000 * (38 + 5 * q)) E := by
  intro N
  induction N with
  | zero => intro q E b mm L _ _ _ _ _ _ _ h; exact absurd h (Nat.not_lt_zero _)
  | succ N ih =>
    intro q E b mm L hq hB hm hE hl hT hG hN
    refine kk_iload dL_law_134 rfl ?_
    refine kk_aloadN dL_law_136 rfl rfl ?_
    refine kk_bipush dL_law_137 rfl ?_
    refine kk_callX0 [zf 101 0, zi 13] [zV0 (zSb w), zi 13] (sL_cell (σ := zσ0) (x := 13) hfl zs_z (by omega) hSL) rfl (kcell_ok _ _) dL_law_139 cw_RL_241 okL_cell rfl (Nat.le_of_ble_eq_true rfl) ⟨Nat.le_of_ble_eq_true rfl, Nat.le_of_ble_eq_true rfl, by show E.length + 0 ≤ 600086; omega, by show 2000 * (38 + 5 * q) + 0 ≤ 7301442; omega⟩ rfl (fun x q => by cases q; trivial) ?_
    refine kj_top (b := zcl w 13) rfl ?_
    have hc139 := zcl_b w 13
    refine kk_bipush dL_law_142 rfl ?_
    refine kk_irem (by omega) (by omega) (by omega) (by omega) dL_law_144 ?_
    refine kk_icmp_ge (tgt := 204) (by first | assumption | (unfold zr at *; omega)) (by first | assumption | (unfold zr at *; omega)) dL_law_145 (by decide) (fun h145 => ?_) (fun h145 => ?_)
    · refine kk_iconst dL_law_204 ?_
      refine kj_istore [zV0 (zSb w), zi ((P : Nat) : Int), zi ((Q : Nat) : Int), zV0 (zB w + 0), zi 0, zu, zu, zu, zu, zu, zu, zu, zu, zu] dL_law_205 (Nat.le_of_ble_eq_true rfl) (Nat.le_of_ble_eq_true rfl) rfl rfl ?_
      refine kk_wide (ks' := 2000 * 63) (by omega) ?_
      exact K E b mm L hB hm (by omega) (by omega) hT (GL_up hG (by omega))
    · refine kk_aloadN dL_law_148 rfl rfl ?_
      refine kk_ldcSw (List.mem_of_getElem? (i := 32) rfl) (by decide) dL_law_149 ?_
      refine kk_app (c := 8) (K := kd8) (Bd := 38 + 5 * q) [zf 100 29] hB hm (by omega) ⟨hE, by omega⟩ (kAppS (K := kd8) hfl hB (by decide) kd8_b (kt_by (by decide)) ⟨by show _ + 8 ≤ 600; omega, hm⟩) rfl rfl dL_law_152 cw_RL_250 okJ4_append_15ec4 rfl (Nat.le_of_ble_eq_true rfl) ⟨Nat.le_of_ble_eq_true rfl, Nat.le_of_ble_eq_true rfl, Nat.le_of_ble_eq_true rfl, Nat.le_of_ble_eq_true rfl⟩ (fun E152 b152 m152 hB152 hm152 hE152 hl152 => ?_)
      refine kk_bipush dL_law_155 rfl ?_
      refine kk_aloadN dL_law_157 rfl rfl ?_
      refine kk_bipush dL_law_158 rfl ?_
      refine kk_iload dL_law_160 rfl ?_
      refine kk_iadd dL_law_162 ?_
      refine kk_callX0 [zf 101 0, zi (14 + ((q : Nat) : Int))] [zV0 (zSb w), zi (14 + ((q : Nat) : Int))] (sL_cell (σ := zσ0) (x := 14 + ((q : Nat) : Int)) hfl zs_z (by omega) hSL) rfl (kcell_ok _ _) dL_law_163 cw_RL_241 okL_cell rfl (Nat.le_of_ble_eq_true rfl) ⟨Nat.le_of_ble_eq_true rfl, Nat.le_of_ble_eq_true rfl, by show E152.length + 0 ≤ 600086; omega, by show 2000 * (38 + 5 * q + 1) + 0 ≤ 7301442; omega⟩ rfl (fun x q => by cases q; trivial) ?_
      refine kj_top (b := zcl w (14 + ((q : Nat) : Int))) rfl ?_
      have hc163 := zcl_b w (14 + ((q : Nat) : Int))
      refine kk_iloadN dL_law_166 rfl rfl ?_
      refine kk_irem (by omega) (by omega) (by omega) (by omega) dL_law_167 ?_
      have hx167 := Int.emod_nonneg (zcl w (14 + ((q : Nat) : Int))) (show ((P : Nat) : Int) ≠ 0 by omega)
      have hy167 := Int.emod_lt_of_pos (zcl w (14 + ((q : Nat) : Int))) (show (0 : Int) < ((P : Nat) : Int) by omega)
      refine kk_iadd dL_law_168 ?_
      refine kk_i2c dL_law_169 ?_
      refine kj_top (b := 97 + (zcl w (14 + ((q : Nat) : Int)) % ((P : Nat) : Int))) ((kch_v ⟨by omega, by omega⟩).1) ?_
      refine kk_app (c := 1) (K := [97 + (zcl w (14 + ((q : Nat) : Int)) % ((P : Nat) : Int))]) (Bd := 38 + 5 * q + 1) [zi (97 + (zcl w (14 + ((q : Nat) : Int)) % ((P : Nat) : Int)))] hB152 hm152 (by omega) ⟨hE152, by omega⟩ (kAppC hfl hB152 (by omega) ⟨by omega, hm152⟩) rfl rfl dL_law_170 cw_RL_253 okJ4_append_cf468 rfl (Nat.le_of_ble_eq_true rfl) ⟨Nat.le_of_ble_eq_true rfl, Nat.le_of_ble_eq_true rfl, Nat.le_of_ble_eq_true rfl, Nat.le_of_ble_eq_true rfl⟩ (fun E170 b170 m170 hB170 hm170 hE170 hl170 => ?_)
      refine kk_bipush dL_law_173 rfl ?_
      refine kk_app (c := 1) (K := [32]) (Bd := 38 + 5 * q + 1 + 1) [zi 32] hB170 hm170 (by omega) ⟨hE170, by omega⟩ (kAppC hfl hB170 (by omega) ⟨by omega, hm170⟩) rfl rfl dL_law_175 cw_RL_253 okJ4_append_cf468 rfl (Nat.le_of_ble_eq_true rfl) ⟨Nat.le_of_ble_eq_true rfl, Nat.le_of_ble_eq_true rfl, Nat.le_of_ble_eq_true rfl, Nat.le_of_ble_eq_true rfl⟩ (fun E175 b175 m175 hB175 hm175 hE175 hl175 => ?_)
      refine kk_aloadN dL_law_178 rfl rfl ?_
      refine kk_bipush dL_law_179 rfl ?_
      refine kk_iload dL_law_181 rfl ?_
      refine kk_iadd dL_law_183 ?_
      refine kk_callX0 [zf 101 0, zi (20 + ((q : Nat) : Int))] [zV0 (zSb w), zi (20 + ((q : Nat) : Int))] (sL_cell (σ := zσ0) (x := 20 + ((q : Nat) : Int)) hfl zs_z (by omega) hSL) rfl (kcell_ok _ _) dL_law_184 cw_RL_241 okL_cell rfl (Nat.le_of_ble_eq_true rfl) ⟨Nat.le_of_ble_eq_true rfl, Nat.le_of_ble_eq_true rfl, by show E175.length + 0 ≤ 600086; omega, by show 2000 * (38 + 5 * q + 1 + 1 + 1) + 0 ≤ 7301442; omega⟩ rfl (fun x q => by cases q; trivial) ?_
      refine kj_top (b := zcl w (20 + ((q : Nat) : Int))) rfl ?_
      have hc184 := zcl_b w (20 + ((q : Nat) : Int))
      refine kk_iconst dL_law_187 ?_
      refine kk_irem (by omega) (by omega) (by omega) (by omega) dL_law_188 ?_
      refine kk_app (c := 1) (K := [48 + ((zcl w (20 + ((q : Nat) : Int))) % 5) % 10]) (Bd := 38 + 5 * q + 1 + 1 + 1) [zi ((zcl w (20 + ((q : Nat) : Int))) % 5)] hB175 hm175 (by omega) ⟨hE175, by omega⟩ (kAppI_1 hfl hB175 (by omega) ⟨by omega, hm175⟩) rfl rfl dL_law_189 cw_RL_256 okJ4_append_bf812 rfl (Nat.le_of_ble_eq_true rfl) ⟨Nat.le_of_ble_eq_true rfl, Nat.le_of_ble_eq_true rfl, Nat.le_of_ble_eq_true rfl, Nat.le_of_ble_eq_true rfl⟩ (fun E189 b189 m189 hB189 hm189 hE189 hl189 => ?_)
      refine kk_bipush dL_law_192 rfl ?_
      refine kk_app (c := 1) (K := [59]) (Bd := 38 + 5 * q + 1 + 1 + 1 + 1) [zi 59] hB189 hm189 (by omega) ⟨hE189, by omega⟩ (kAppC hfl hB189 (by omega) ⟨by omega, hm189⟩) rfl rfl dL_law_194 cw_RL_253 okJ4_append_cf468 rfl (Nat.le_of_ble_eq_true rfl) ⟨Nat.le_of_ble_eq_true rfl, Nat.le_of_ble_eq_true rfl, Nat.le_of_ble_eq_true rfl, Nat.le_of_ble_eq_true rfl⟩ (fun E194 b194 m194 hB194 hm194 hE194 hl194 => ?_)
      refine kk_pop rfl dL_law_197 ?_
      refine kj_iinc (b := ((q + 1 : Nat) : Int)) [zV0 (zSb w), zi ((P : Nat) : Int), zi ((Q : Nat) : Int), zV0 (zB w + 0), zi ((q + 1 : Nat) : Int), zu, zu, zu, zu, zu, zu, zu, zu, zu] dL_law_198 rfl (by omega) (Nat.le_of_ble_eq_true rfl) rfl rfl ?_
      refine kk_goto (tgt := 134) dL_law_201 (by decide) ?_
      refine kk_wide (ks' := 2000 * (38 + 5 * (q + 1))) (by omega) ?_
      have e := txD_app (L := L) (x := zcl w (14 + ((q : Nat) : Int)) % ((P : Nat) : Int)) (v := zcl w (20 + ((q : Nat) : Int)) % 5) (by omega)
      exact ih (q + 1) _ _ _ (L ++ txO woD (zcl w (14 + ((q : Nat) : Int)) % ((P : Nat) : Int)) (zcl w (20 + ((q : Nat) : Int)) % 5)) (by omega) (by rw [← e]; exact hB194) hm194 (by omega) (by rw [List.length_append]; show _ + 12 ≤ _; omega) (LT_a hT (LT_O woD_l (by omega) (by omega))) (GL_D hG (by omega) (by omega) (by omega) (by omega)) (by omega)
set_option maxRecDepth 20000 in
set_option maxHeartbeats 4000000 in
theorem lA_t {l : Launch} {w : zW} (hfl : l.stackTraces = false) {hh : List (Nat × Nat × Nat × Nat)} {Z : List Frame → Array Value → State → State → Prop} (hSL : zSL w ≤ 260) {P Q : Nat} (hP : 1 ≤ P ∧ P ≤ 4) (hQ : Q ≤ 2) (K : ∀ (E : List va_E) (b mm : Nat) (L : List Int), BS w E 0 b mm L → mm ≤ 1300 → E.length ≤ 88 → L.length ≤ 202 → LT L → GL 3 P 0 L → zK l w (mL_law hh) (room_1, Z, 0, 0) false 280 [zV0 (zSb w), zi ((P : Nat) : Int), zi ((Q : Nat) : Int), zV0 (zB w + 0), zi 0, zu, zu, zu, zu, zu, zu, zu, zu, zu] [] E.length (2000 * 88) E) : ∀ (N q : Nat) (E : List va_E) (b mm : Nat) (L : List Int), q ≤ 5 → BS w E 0 b mm L → mm ≤ 1300 → E.length ≤ 63 + 5 * q → L.length ≤ 152 + 10 * q → LT L → GL 2 P 0 L → 5 + 1 - q < N → zK l w (mL_law hh) (room_1, Z, 0, 0) false 207 [zV0 (zSb w), zi ((P : Nat) : Int), zi ((Q : Nat) : Int), zV0 (zB w + 0), zi ((q : Nat) : Int), zu, zu, zu, zu, zu, zu, zu, zu, zu] [] E.length (2000 * (63 + 5 * q)) E := by
  intro N
  induction N with
  | zero => intro q E b mm L _ _ _ _ _ _ _ h; exact absurd h (Nat.not_lt_zero _)
  | succ N ih =>
    intro q E b mm L hq hB hm hE hl hT hG hN
    refine kk_iload dL_law_207 rfl ?_
    refine kk_aloadN dL_law_209 rfl rfl ?_
    refine kk_bipush dL_law_210 rfl ?_
    refine kk_callX0 [zf 101 0, zi 33] [zV0 (zSb w), zi 33] (sL_cell (σ := zσ0) (x := 33) hfl zs_z (by omega) hSL) rfl (kcell_ok _ _) dL_law_212 cw_RL_241 okL_cell rfl (Nat.le_of_ble_eq_true rfl) ⟨Nat.le_of_ble_eq_true rfl, Nat.le_of_ble_eq_true rfl, by show E.length + 0 ≤ 600086; omega, by show 2000 * (63 + 5 * q) + 0 ≤ 7301442; omega⟩ rfl (fun x q => by cases q; trivial) ?_
    refine kj_top (b := zcl w 33) rfl ?_
    have hc212 := zcl_b w 33
    refine kk_bipush dL_law_215 rfl ?_
    refine kk_irem (by omega) (by omega) (by omega) (by omega) dL_law_217 ?_
    refine kk_icmp_ge (tgt := 277) (by first | assumption | (unfold zr at *; omega)) (by first | assumption | (unfold zr at *; omega)) dL_law_218 (by decide) (fun h218 => ?_) (fun h218 => ?_)
    · refine kk_iconst dL_law_277 ?_
      refine kj_istore [zV0 (zSb w), zi ((P : Nat) : Int), zi ((Q : Nat) : Int), zV0 (zB w + 0), zi 0, zu, zu, zu, zu, zu, zu, zu, zu, zu] dL_law_278 (Nat.le_of_ble_eq_true rfl) (Nat.le_of_ble_eq_true rfl) rfl rfl ?_
      refine kk_wide (ks' := 2000 * 88) (by omega) ?_
      exact K E b mm L hB hm (by omega) (by omega) hT (GL_up hG (by omega))
    · refine kk_aloadN dL_law_221 rfl rfl ?_
      refine kk_ldcSw (List.mem_of_getElem? (i := 33) rfl) (by decide) dL_law_222 ?_
      refine kk_app (c := 6) (K := kt6) (Bd := 63 + 5 * q) [zf 100 30] hB hm (by omega) ⟨hE, by omega⟩ (kAppS (K := kt6) hfl hB (by decide) kt6_b (kt_by (by decide)) ⟨by show _ + 6 ≤ 600; omega, hm⟩) rfl rfl dL_law_225 cw_RL_250 okJ4_append_15ec4 rfl (Nat.le_of_ble_eq_true rfl) ⟨Nat.le_of_ble_eq_true rfl, Nat.le_of_ble_eq_true rfl, Nat.le_of_ble_eq_true rfl, Nat.le_of_ble_eq_true rfl⟩ (fun E225 b225 m225 hB225 hm225 hE225 hl225 => ?_)
      refine kk_bipush dL_law_228 rfl ?_
      refine kk_aloadN dL_law_230 rfl rfl ?_
      refine kk_bipush dL_law_231 rfl ?_
      refine kk_iload dL_law_233 rfl ?_
      refine kk_iadd dL_law_235 ?_
      refine kk_callX0 [zf 101 0, zi (34 + ((q : Nat) : Int))] [zV0 (zSb w), zi (34 + ((q : Nat) : Int))] (sL_cell (σ := zσ0) (x := 34 + ((q : Nat) : Int)) hfl zs_z (by omega) hSL) rfl (kcell_ok _ _) dL_law_236 cw_RL_241 okL_cell rfl (Nat.le_of_ble_eq_true rfl) ⟨Nat.le_of_ble_eq_true rfl, Nat.le_of_ble_eq_true rfl, by show E225.length + 0 ≤ 600086; omega, by show 2000 * (63 + 5 * q + 1) + 0 ≤ 7301442; omega⟩ rfl (fun x q => by cases q; trivial) ?_
      refine kj_top (b := zcl w (34 + ((q : Nat) : Int))) rfl ?_
      have hc236 := zcl_b w (34 + ((q : Nat) : Int))
      refine kk_iloadN dL_law_239 rfl rfl ?_
      refine kk_irem (by omega) (by omega) (by omega) (by omega) dL_law_240 ?_
      have hx240 := Int.emod_nonneg (zcl w (34 + ((q : Nat) : Int))) (show ((P : Nat) : Int) ≠ 0 by omega)
      have hy240 := Int.emod_lt_of_pos (zcl w (34 + ((q : Nat) : Int))) (show (0 : Int) < ((P : Nat) : Int) by omega)
      refine kk_iadd dL_law_241 ?_
      refine kk_i2c dL_law_242 ?_
      refine kj_top (b := 97 + (zcl w (34 + ((q : Nat) : Int)) % ((P : Nat) : Int))) ((kch_v ⟨by omega, by omega⟩).1) ?_
      refine kk_app (c := 1) (K := [97 + (zcl w (34 + ((q : Nat) : Int)) % ((P : Nat) : Int))]) (Bd := 63 + 5 * q + 1) [zi (97 + (zcl w (34 + ((q : Nat) : Int)) % ((P : Nat) : Int)))] hB225 hm225 (by omega) ⟨hE225, by omega⟩ (kAppC hfl hB225 (by omega) ⟨by omega, hm225⟩) rfl rfl dL_law_243 cw_RL_253 okJ4_append_cf468 rfl (Nat.le_of_ble_eq_true rfl) ⟨Nat.le_of_ble_eq_true rfl, Nat.le_of_ble_eq_true rfl, Nat.le_of_ble_eq_true rfl, Nat.le_of_ble_eq_true rfl⟩ (fun E243 b243 m243 hB243 hm243 hE243 hl243 => ?_)
      refine kk_bipush dL_law_246 rfl ?_
      refine kk_app (c := 1) (K := [32]) (Bd := 63 + 5 * q + 1 + 1) [zi 32] hB243 hm243 (by omega) ⟨hE243, by omega⟩ (kAppC hfl hB243 (by omega) ⟨by omega, hm243⟩) rfl rfl dL_law_248 cw_RL_253 okJ4_append_cf468 rfl (Nat.le_of_ble_eq_true rfl) ⟨Nat.le_of_ble_eq_true rfl, Nat.le_of_ble_eq_true rfl, Nat.le_of_ble_eq_true rfl, Nat.le_of_ble_eq_true rfl⟩ (fun E248 b248 m248 hB248 hm248 hE248 hl248 => ?_)
      refine kk_aloadN dL_law_251 rfl rfl ?_
      refine kk_bipush dL_law_252 rfl ?_
      refine kk_iload dL_law_254 rfl ?_
      refine kk_iadd dL_law_256 ?_
      refine kk_callX0 [zf 101 0, zi (40 + ((q : Nat) : Int))] [zV0 (zSb w), zi (40 + ((q : Nat) : Int))] (sL_cell (σ := zσ0) (x := 40 + ((q : Nat) : Int)) hfl zs_z (by omega) hSL) rfl (kcell_ok _ _) dL_law_257 cw_RL_241 okL_cell rfl (Nat.le_of_ble_eq_true rfl) ⟨Nat.le_of_ble_eq_true rfl, Nat.le_of_ble_eq_true rfl, by show E248.length + 0 ≤ 600086; omega, by show 2000 * (63 + 5 * q + 1 + 1 + 1) + 0 ≤ 7301442; omega⟩ rfl (fun x q => by cases q; trivial) ?_
      refine kj_top (b := zcl w (40 + ((q : Nat) : Int))) rfl ?_
      have hc257 := zcl_b w (40 + ((q : Nat) : Int))
      refine kk_iconst dL_law_260 ?_
      refine kk_irem (by omega) (by omega) (by omega) (by omega) dL_law_261 ?_
      refine kk_app (c := 1) (K := [48 + ((zcl w (40 + ((q : Nat) : Int))) % 4) % 10]) (Bd := 63 + 5 * q + 1 + 1 + 1) [zi ((zcl w (40 + ((q : Nat) : Int))) % 4)] hB248 hm248 (by omega) ⟨hE248, by omega⟩ (kAppI_1 hfl hB248 (by omega) ⟨by omega, hm248⟩) rfl rfl dL_law_262 cw_RL_256 okJ4_append_bf812 rfl (Nat.le_of_ble_eq_true rfl) ⟨Nat.le_of_ble_eq_true rfl, Nat.le_of_ble_eq_true rfl, Nat.le_of_ble_eq_true rfl, Nat.le_of_ble_eq_true rfl⟩ (fun E262 b262 m262 hB262 hm262 hE262 hl262 => ?_)
      refine kk_bipush dL_law_265 rfl ?_
      refine kk_app (c := 1) (K := [59]) (Bd := 63 + 5 * q + 1 + 1 + 1 + 1) [zi 59] hB262 hm262 (by omega) ⟨hE262, by omega⟩ (kAppC hfl hB262 (by omega) ⟨by omega, hm262⟩) rfl rfl dL_law_267 cw_RL_253 okJ4_append_cf468 rfl (Nat.le_of_ble_eq_true rfl) ⟨Nat.le_of_ble_eq_true rfl, Nat.le_of_ble_eq_true rfl, Nat.le_of_ble_eq_true rfl, Nat.le_of_ble_eq_true rfl⟩ (fun E267 b267 m267 hB267 hm267 hE267 hl267 => ?_)
      refine kk_pop rfl dL_law_270 ?_
      refine kj_iinc (b := ((q + 1 : Nat) : Int)) [zV0 (zSb w), zi ((P : Nat) : Int), zi ((Q : Nat) : Int), zV0 (zB w + 0), zi ((q + 1 : Nat) : Int), zu, zu, zu, zu, zu, zu, zu, zu, zu] dL_law_271 rfl (by omega) (Nat.le_of_ble_eq_true rfl) rfl rfl ?_
      refine kk_goto (tgt := 207) dL_law_274 (by decide) ?_
      refine kk_wide (ks' := 2000 * (63 + 5 * (q + 1))) (by omega) ?_
      have e := txT_app (L := L) (x := zcl w (34 + ((q : Nat) : Int)) % ((P : Nat) : Int)) (v := zcl w (40 + ((q : Nat) : Int)) % 4) (by omega)
      exact ih (q + 1) _ _ _ (L ++ txO woT (zcl w (34 + ((q : Nat) : Int)) % ((P : Nat) : Int)) (zcl w (40 + ((q : Nat) : Int)) % 4)) (by omega) (by rw [← e]; exact hB267) hm267 (by omega) (by rw [List.length_append]; show _ + 10 ≤ _; omega) (LT_a hT (LT_O woT_l (by omega) (by omega))) (GL_T hG (by omega) (by omega) (by omega) (by omega)) (by omega)
set_option maxRecDepth 20000 in
set_option maxHeartbeats 4000000 in
theorem lA_m {l : Launch} {w : zW} (hfl : l.stackTraces = false) {hh : List (Nat × Nat × Nat × Nat)} {Z : List Frame → Array Value → State → State → Prop} (hSL : zSL w ≤ 260) {P Q : Nat} (hP : 1 ≤ P ∧ P ≤ 4) (hQ : Q ≤ 2) (K : ∀ (E : List va_E) (b mm : Nat) (L : List Int), BS w E 0 b mm L → mm ≤ 1300 → E.length ≤ 98 → L.length ≤ 232 → LT L → GL 3 P Q L → zK l w (mL_law hh) (room_1, Z, 0, 0) false 348 [zV0 (zSb w), zi ((P : Nat) : Int), zi ((Q : Nat) : Int), zV0 (zB w + 0), zu, zu, zu, zu, zu, zu, zu, zu, zu, zu] [] E.length (2000 * 98) E) : ∀ (N q : Nat) (E : List va_E) (b mm : Nat) (L : List Int), q ≤ Q → BS w E 0 b mm L → mm ≤ 1300 → E.length ≤ 88 + 5 * q → L.length ≤ 202 + 15 * q → LT L → GL 3 P q L → Q + 1 - q < N → zK l w (mL_law hh) (room_1, Z, 0, 0) false 280 [zV0 (zSb w), zi ((P : Nat) : Int), zi ((Q : Nat) : Int), zV0 (zB w + 0), zi ((q : Nat) : Int), zu, zu, zu, zu, zu, zu, zu, zu, zu] [] E.length (2000 * (88 + 5 * q)) E := by
  intro N
  induction N with
  | zero => intro q E b mm L _ _ _ _ _ _ _ h; exact absurd h (Nat.not_lt_zero _)
  | succ N ih =>
    intro q E b mm L hq hB hm hE hl hT hG hN
    refine kk_iload dL_law_280 rfl ?_
    refine kk_iloadN dL_law_282 rfl rfl ?_
    refine kk_icmp_ge (tgt := 348) (by first | assumption | (unfold zr at *; omega)) (by first | assumption | (unfold zr at *; omega)) dL_law_283 (by decide) (fun h283 => ?_) (fun h283 => ?_)
    · refine kj_drop 4 [zV0 (zSb w), zi ((P : Nat) : Int), zi ((Q : Nat) : Int), zV0 (zB w + 0), zu, zu, zu, zu, zu, zu, zu, zu, zu, zu] rfl ?_
      refine kk_wide (ks' := 2000 * 98) (by omega) ?_
      exact K E b mm L hB hm (by omega) (by omega) hT (by rw [show Q = q by omega]; exact hG)
    · refine kk_aloadN dL_law_286 rfl rfl ?_
      refine kk_ldcSw (List.mem_of_getElem? (i := 34) rfl) (by decide) dL_law_287 ?_
      refine kk_app (c := 5) (K := km5) (Bd := 88 + 5 * q) [zf 100 31] hB hm (by omega) ⟨hE, by omega⟩ (kAppS (K := km5) hfl hB (by decide) km5_b (kt_by (by decide)) ⟨by show _ + 5 ≤ 600; omega, hm⟩) rfl rfl dL_law_290 cw_RL_250 okJ4_append_15ec4 rfl (Nat.le_of_ble_eq_true rfl) ⟨Nat.le_of_ble_eq_true rfl, Nat.le_of_ble_eq_true rfl, Nat.le_of_ble_eq_true rfl, Nat.le_of_ble_eq_true rfl⟩ (fun E290 b290 m290 hB290 hm290 hE290 hl290 => ?_)
      refine kk_sipush dL_law_293 rfl ?_
      refine kk_aloadN dL_law_296 rfl rfl ?_
      refine kk_bipush dL_law_297 rfl ?_
      refine kk_iload dL_law_299 rfl ?_
      refine kk_iadd dL_law_301 ?_
      refine kk_callX0 [zf 101 0, zi (47 + ((q : Nat) : Int))] [zV0 (zSb w), zi (47 + ((q : Nat) : Int))] (sL_cell (σ := zσ0) (x := 47 + ((q : Nat) : Int)) hfl zs_z (by omega) hSL) rfl (kcell_ok _ _) dL_law_302 cw_RL_241 okL_cell rfl (Nat.le_of_ble_eq_true rfl) ⟨Nat.le_of_ble_eq_true rfl, Nat.le_of_ble_eq_true rfl, by show E290.length + 0 ≤ 600086; omega, by show 2000 * (88 + 5 * q + 1) + 0 ≤ 7301442; omega⟩ rfl (fun x q => by cases q; trivial) ?_
      refine kj_top (b := zcl w (47 + ((q : Nat) : Int))) rfl ?_
      have hc302 := zcl_b w (47 + ((q : Nat) : Int))
      refine kk_bipush dL_law_305 rfl ?_
      refine kk_irem (by omega) (by omega) (by omega) (by omega) dL_law_307 ?_
      refine kk_iadd dL_law_308 ?_
      refine kk_app (c := 4) (K := d4 (1500 + ((zcl w (47 + ((q : Nat) : Int))) % 30))) (Bd := 88 + 5 * q + 1) [zi (1500 + ((zcl w (47 + ((q : Nat) : Int))) % 30))] hB290 hm290 (by omega) ⟨hE290, by omega⟩ (kAppI_4 hfl hB290 (by omega) ⟨by omega, hm290⟩) rfl rfl dL_law_309 cw_RL_256 okJ4_append_bf812 rfl (Nat.le_of_ble_eq_true rfl) ⟨Nat.le_of_ble_eq_true rfl, Nat.le_of_ble_eq_true rfl, Nat.le_of_ble_eq_true rfl, Nat.le_of_ble_eq_true rfl⟩ (fun E309 b309 m309 hB309 hm309 hE309 hl309 => ?_)
      refine kk_bipush dL_law_312 rfl ?_
      refine kk_app (c := 1) (K := [32]) (Bd := 88 + 5 * q + 1 + 1) [zi 32] hB309 hm309 (by omega) ⟨hE309, by omega⟩ (kAppC hfl hB309 (by omega) ⟨by omega, hm309⟩) rfl rfl dL_law_314 cw_RL_253 okJ4_append_cf468 rfl (Nat.le_of_ble_eq_true rfl) ⟨Nat.le_of_ble_eq_true rfl, Nat.le_of_ble_eq_true rfl, Nat.le_of_ble_eq_true rfl, Nat.le_of_ble_eq_true rfl⟩ (fun E314 b314 m314 hB314 hm314 hE314 hl314 => ?_)
      refine kk_sipush dL_law_317 rfl ?_
      refine kk_aloadN dL_law_320 rfl rfl ?_
      refine kk_bipush dL_law_321 rfl ?_
      refine kk_iload dL_law_323 rfl ?_
      refine kk_iadd dL_law_325 ?_
      refine kk_callX0 [zf 101 0, zi (50 + ((q : Nat) : Int))] [zV0 (zSb w), zi (50 + ((q : Nat) : Int))] (sL_cell (σ := zσ0) (x := 50 + ((q : Nat) : Int)) hfl zs_z (by omega) hSL) rfl (kcell_ok _ _) dL_law_326 cw_RL_241 okL_cell rfl (Nat.le_of_ble_eq_true rfl) ⟨Nat.le_of_ble_eq_true rfl, Nat.le_of_ble_eq_true rfl, by show E314.length + 0 ≤ 600086; omega, by show 2000 * (88 + 5 * q + 1 + 1 + 1) + 0 ≤ 7301442; omega⟩ rfl (fun x q => by cases q; trivial) ?_
      refine kj_top (b := zcl w (50 + ((q : Nat) : Int))) rfl ?_
      have hc326 := zcl_b w (50 + ((q : Nat) : Int))
      refine kk_bipush dL_law_329 rfl ?_
      refine kk_irem (by omega) (by omega) (by omega) (by omega) dL_law_331 ?_
      refine kk_iadd dL_law_332 ?_
      refine kk_app (c := 4) (K := d4 (1530 + ((zcl w (50 + ((q : Nat) : Int))) % 6))) (Bd := 88 + 5 * q + 1 + 1 + 1) [zi (1530 + ((zcl w (50 + ((q : Nat) : Int))) % 6))] hB314 hm314 (by omega) ⟨hE314, by omega⟩ (kAppI_4 hfl hB314 (by omega) ⟨by omega, hm314⟩) rfl rfl dL_law_333 cw_RL_256 okJ4_append_bf812 rfl (Nat.le_of_ble_eq_true rfl) ⟨Nat.le_of_ble_eq_true rfl, Nat.le_of_ble_eq_true rfl, Nat.le_of_ble_eq_true rfl, Nat.le_of_ble_eq_true rfl⟩ (fun E333 b333 m333 hB333 hm333 hE333 hl333 => ?_)
      refine kk_bipush dL_law_336 rfl ?_
      refine kk_app (c := 1) (K := [59]) (Bd := 88 + 5 * q + 1 + 1 + 1 + 1) [zi 59] hB333 hm333 (by omega) ⟨hE333, by omega⟩ (kAppC hfl hB333 (by omega) ⟨by omega, hm333⟩) rfl rfl dL_law_338 cw_RL_253 okJ4_append_cf468 rfl (Nat.le_of_ble_eq_true rfl) ⟨Nat.le_of_ble_eq_true rfl, Nat.le_of_ble_eq_true rfl, Nat.le_of_ble_eq_true rfl, Nat.le_of_ble_eq_true rfl⟩ (fun E338 b338 m338 hB338 hm338 hE338 hl338 => ?_)
      refine kk_pop rfl dL_law_341 ?_
      refine kj_iinc (b := ((q + 1 : Nat) : Int)) [zV0 (zSb w), zi ((P : Nat) : Int), zi ((Q : Nat) : Int), zV0 (zB w + 0), zi ((q + 1 : Nat) : Int), zu, zu, zu, zu, zu, zu, zu, zu, zu] dL_law_342 rfl (by omega) (Nat.le_of_ble_eq_true rfl) rfl rfl ?_
      refine kk_goto (tgt := 280) dL_law_345 (by decide) ?_
      refine kk_wide (ks' := 2000 * (88 + 5 * (q + 1))) (by omega) ?_
      have e := txM_app (L := L) (a := 1500 + (zcl w (47 + ((q : Nat) : Int)) % 30)) (b := 1530 + (zcl w (50 + ((q : Nat) : Int)) % 6))
      exact ih (q + 1) _ _ _ (L ++ txM (1500 + (zcl w (47 + ((q : Nat) : Int)) % 30)) (1530 + (zcl w (50 + ((q : Nat) : Int)) % 6))) (by omega) (by rw [← e]; exact hB338) hm338 (by omega) (by rw [List.length_append, txM_l]; omega) (LT_a hT (LT_M (by omega) (by omega))) (GL_M hG (by omega) (by omega) (by omega) (by omega)) (by omega)
set_option maxRecDepth 20000 in
set_option maxHeartbeats 4000000 in
theorem lA_0 {l : Launch} {w : zW} (hfl : l.stackTraces = false) {hh : List (Nat × Nat × Nat × Nat)} {Z : List Frame → Array Value → State → State → Prop} (hSL : zSL w ≤ 260) {P Q : Nat} (hPe : ((P : Nat) : Int) = 1 + zcl w 0 % 4) (hQe : ((Q : Nat) : Int) = zcl w 46 % 3) (K : ∀ (E : List va_E) (b mm : Nat), BS w E 0 b mm [] → mm ≤ 1300 → E.length = 2 → zK l w (mL_law hh) (room_1, Z, 0, 0) false 30 [zV0 (zSb w), zi ((P : Nat) : Int), zi ((Q : Nat) : Int), zV0 (zB w + 0), zi 0, zu, zu, zu, zu, zu, zu, zu, zu, zu] [] E.length (2000 * (2 + 9 * 0)) E) : zK l w (mL_law hh) (room_1, Z, 0, 0) false 0 [zV0 (zSb w), zu, zu, zu, zu, zu, zu, zu, zu, zu, zu, zu, zu, zu] [] 0 (0) [] := by
  skip
  refine kk_iconst dL_law_0 ?_
  refine kk_aloadN dL_law_1 rfl rfl ?_
  refine kk_iconst dL_law_2 ?_
  refine kk_callX0 [zf 101 0, zi 0] [zV0 (zSb w), zi 0] (sL_cell (σ := zσ0) (x := 0) hfl zs_z (by omega) hSL) rfl (kcell_ok _ _) dL_law_3 cw_RL_241 okL_cell rfl (Nat.le_of_ble_eq_true rfl) ⟨Nat.le_of_ble_eq_true rfl, Nat.le_of_ble_eq_true rfl, by show 0 + 0 ≤ 600086; omega, by show 0 + 0 ≤ 7301442; omega⟩ rfl (fun x q => by cases q; trivial) ?_
  refine kj_top (b := zcl w 0) rfl ?_
  have hc3 := zcl_b w 0
  refine kk_iconst dL_law_6 ?_
  refine kk_irem (by omega) (by omega) (by omega) (by omega) dL_law_7 ?_
  refine kk_iadd dL_law_8 ?_
  refine kj_top (b := ((P : Nat) : Int)) (by omega) ?_
  refine kj_istoreN [zV0 (zSb w), zi ((P : Nat) : Int), zu, zu, zu, zu, zu, zu, zu, zu, zu, zu, zu, zu] dL_law_9 rfl (Nat.le_of_ble_eq_true rfl) (Nat.le_of_ble_eq_true rfl) rfl rfl ?_
  refine kk_aloadN dL_law_10 rfl rfl ?_
  refine kk_bipush dL_law_11 rfl ?_
  refine kk_callX0 [zf 101 0, zi 46] [zV0 (zSb w), zi 46] (sL_cell (σ := zσ0) (x := 46) hfl zs_z (by omega) hSL) rfl (kcell_ok _ _) dL_law_13 cw_RL_241 okL_cell rfl (Nat.le_of_ble_eq_true rfl) ⟨Nat.le_of_ble_eq_true rfl, Nat.le_of_ble_eq_true rfl, by show 0 + 0 ≤ 600086; omega, by show 0 + 0 ≤ 7301442; omega⟩ rfl (fun x q => by cases q; trivial) ?_
  refine kj_top (b := zcl w 46) rfl ?_
  have hc13 := zcl_b w 46
  refine kk_iconst dL_law_16 ?_
  refine kk_irem (by omega) (by omega) (by omega) (by omega) dL_law_17 ?_
  refine kj_top (b := ((Q : Nat) : Int)) (by omega) ?_
  refine kj_istoreN [zV0 (zSb w), zi ((P : Nat) : Int), zi ((Q : Nat) : Int), zu, zu, zu, zu, zu, zu, zu, zu, zu, zu, zu] dL_law_18 rfl (Nat.le_of_ble_eq_true rfl) (Nat.le_of_ble_eq_true rfl) rfl rfl ?_
  refine kk_new (t := 10) (N := 4) (fs := [.null, .int 0, .int 0, .int 0]) rfl (fun _ => rfl) rfl kn_RL_245 kin_10 kii_10 kfs_10 (Nat.le_of_ble_eq_true rfl) (Nat.le_of_ble_eq_true rfl) dL_law_19 (fun E19 z19 e19 k19 => ?_)
  refine kk_dup rfl dL_law_22 ?_
  refine kk_callI [] (kInit hfl e19) dL_law_23 ck_RL_247 okJ4_init_da8c8 rfl rfl (Nat.le_of_ble_eq_true rfl) ⟨Nat.le_of_ble_eq_true rfl, Nat.le_of_ble_eq_true rfl, Nat.le_of_ble_eq_true rfl, Nat.le_of_ble_eq_true rfl⟩ (fun q => kne e19 q) (fun E23 q23 z23 => ?_)
  refine kk_astoreN dL_law_26 rfl (Nat.le_of_ble_eq_true rfl) (Nat.le_of_ble_eq_true rfl) rfl ?_
  refine kk_iconst dL_law_27 ?_
  refine kj_istore [zV0 (zSb w), zi ((P : Nat) : Int), zi ((Q : Nat) : Int), zV0 (zB w + 0), zi 0, zu, zu, zu, zu, zu, zu, zu, zu, zu] dL_law_28 (Nat.le_of_ble_eq_true rfl) (Nat.le_of_ble_eq_true rfl) rfl rfl ?_
  have z : E23.length = 2 := by rw [z23, z19]; rfl
  have hk := K E23 _ _ q23.1 (by omega) z
  rw [z] at hk
  exact kk_wide (ks' := 2000 * (2 + 9 * 0)) (by omega) hk
theorem lA {l : Launch} {w : zW} (hfl : l.stackTraces = false) {hh : List (Nat × Nat × Nat × Nat)} {Z : List Frame → Array Value → State → State → Prop} (hSL : zSL w ≤ 260) {P Q : Nat} (hPe : ((P : Nat) : Int) = 1 + zcl w 0 % 4) (hQe : ((Q : Nat) : Int) = zcl w 46 % 3) (K : ∀ (E : List va_E) (b mm : Nat) (L : List Int), BS w E 0 b mm L → mm ≤ 1300 → E.length ≤ 98 → L.length ≤ 232 → LT L → GL 3 P Q L → zK l w (mL_law hh) (room_1, Z, 0, 0) false 348 [zV0 (zSb w), zi ((P : Nat) : Int), zi ((Q : Nat) : Int), zV0 (zB w + 0), zu, zu, zu, zu, zu, zu, zu, zu, zu, zu] [] E.length (2000 * 98) E) : zK l w (mL_law hh) (room_1, Z, 0, 0) false 0 [zV0 (zSb w), zu, zu, zu, zu, zu, zu, zu, zu, zu, zu, zu, zu, zu] [] 0 (0) [] := by
  have h0 := zcl_b w 0
  have h1 := zcl_b w 46
  have hP : 1 ≤ P ∧ P ≤ 4 := by omega
  have hQ : Q ≤ 2 := by omega
  refine lA_0 hfl hSL hPe hQe (fun E b mm hB hm hE => ?_)
  refine lA_p hfl hSL hP hQ (fun E b mm L a1 a2 a3 a4 a5 a6 => ?_) (P + 2) 0 E b mm [] (Nat.zero_le _) hB hm (by omega) (by show 0 ≤ _; omega) LT_0 GL_0 (by omega)
  refine lA_d hfl hSL hP hQ (fun E b mm L a1 a2 a3 a4 a5 a6 => ?_) 7 0 E b mm L (Nat.zero_le _) a1 a2 (by omega) (by omega) a5 a6 (by omega)
  refine lA_t hfl hSL hP hQ (fun E b mm L a1 a2 a3 a4 a5 a6 => ?_) 7 0 E b mm L (Nat.zero_le _) a1 a2 (by omega) (by omega) a5 a6 (by omega)
  exact lA_m hfl hSL hP hQ K (Q + 2) 0 E b mm L (Nat.zero_le _) a1 a2 (by omega) (by omega) a5 a6 (by omega)

