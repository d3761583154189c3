abbrev mL_reads_ : zM := (yL_reads_, cL_reads_, 8, (some .boolean), [])
theorem okL_reads_ : zMok mL_reads_ 2 := ⟨by decide, by decide, by decide +kernel⟩
theorem dL_reads__0 : decode cL_reads_ 0 = .ok (.aload_n 0, 1) := by decide +kernel
theorem dL_reads__1 : decode cL_reads_ 1 = .ok (.iload_n 1, 1) := by decide +kernel
theorem dL_reads__2 : decode cL_reads_ 2 = .ok (.invokevirtual 208, 3) := by decide +kernel
theorem dL_reads__5 : decode cL_reads_ 5 = .ok (.istore_n 2, 1) := by decide +kernel
theorem dL_reads__6 : decode cL_reads_ 6 = .ok (.aload_n 0, 1) := by decide +kernel
theorem dL_reads__7 : decode cL_reads_ 7 = .ok (.iload_n 1, 1) := by decide +kernel
theorem dL_reads__8 : decode cL_reads_ 8 = .ok (.invokevirtual 211, 3) := by decide +kernel
theorem dL_reads__11 : decode cL_reads_ 11 = .ok (.istore_n 3, 1) := by decide +kernel
theorem dL_reads__12 : decode cL_reads_ 12 = .ok (.aload_n 0, 1) := by decide +kernel
theorem dL_reads__13 : decode cL_reads_ 13 = .ok (.invokevirtual 228, 3) := by decide +kernel
theorem cw_RL_228 : zCwV RL 228 mX9_cluesUntilChange := zall [1207, 1208, 1209, 31, 1210] (by decide +kernel) (by decide +kernel)
theorem dL_reads__16 : decode cL_reads_ 16 = .ok (.istore 4, 2) := by decide +kernel
theorem dL_reads__18 : decode cL_reads_ 18 = .ok (.aload_n 0, 1) := by decide +kernel
theorem dL_reads__19 : decode cL_reads_ 19 = .ok (.invokevirtual 174, 3) := by decide +kernel
theorem dL_reads__22 : decode cL_reads_ 22 = .ok (.istore 5, 2) := by decide +kernel
theorem dL_reads__24 : decode cL_reads_ 24 = .ok (.aload_n 0, 1) := by decide +kernel
theorem dL_reads__25 : decode cL_reads_ 25 = .ok (.invokevirtual 198, 3) := by decide +kernel
theorem dL_reads__28 : decode cL_reads_ 28 = .ok (.istore 6, 2) := by decide +kernel
theorem dL_reads__30 : decode cL_reads_ 30 = .ok (.aload_n 0, 1) := by decide +kernel
theorem dL_reads__31 : decode cL_reads_ 31 = .ok (.iconst 5, 1) := by decide +kernel
theorem dL_reads__32 : decode cL_reads_ 32 = .ok (.iload_n 1, 1) := by decide +kernel
theorem dL_reads__33 : decode cL_reads_ 33 = .ok (.iconst 0, 1) := by decide +kernel
theorem dL_reads__34 : decode cL_reads_ 34 = .ok (.iconst 0, 1) := by decide +kernel
theorem dL_reads__35 : decode cL_reads_ 35 = .ok (.invokestatic 231, 3) := by decide +kernel
theorem cw_RL_231 : zCwH RL 231 mL_does := zall [729, 730, 18, 731] (by decide +kernel) (by decide +kernel)
theorem dL_reads__38 : decode cL_reads_ 38 = .ok (.istore 7, 2) := by decide +kernel
theorem dL_reads__40 : decode cL_reads_ 40 = .ok (.iload 7, 2) := by decide +kernel
theorem dL_reads__42 : decode cL_reads_ 42 = .ok (.iload_n 1, 1) := by decide +kernel
theorem dL_reads__43 : decode cL_reads_ 43 = .ok (.if_icmp .gt 56, 3) := by decide +kernel
theorem dL_reads__46 : decode cL_reads_ 46 = .ok (.iload 6, 2) := by decide +kernel
theorem dL_reads__48 : decode cL_reads_ 48 = .ok (.ifCond .lt 7, 3) := by decide +kernel
theorem dL_reads__55 : decode cL_reads_ 55 = .ok (.iconst 0, 1) := by decide +kernel
theorem dL_reads__56 : decode cL_reads_ 56 = .ok (.iload 7, 2) := by decide +kernel
theorem dL_reads__58 : decode cL_reads_ 58 = .ok (.ifCond .le 7, 3) := by decide +kernel
theorem dL_reads__65 : decode cL_reads_ 65 = .ok (.iconst 0, 1) := by decide +kernel
theorem dL_reads__66 : decode cL_reads_ 66 = .ok (.if_icmp .ne 33, 3) := by decide +kernel
theorem dL_reads__69 : decode cL_reads_ 69 = .ok (.iload 6, 2) := by decide +kernel
theorem dL_reads__71 : decode cL_reads_ 71 = .ok (.ifCond .lt 12, 3) := by decide +kernel
theorem dL_reads__83 : decode cL_reads_ 83 = .ok (.aload_n 0, 1) := by decide +kernel
theorem dL_reads__84 : decode cL_reads_ 84 = .ok (.invokevirtual 174, 3) := by decide +kernel
theorem dL_reads__87 : decode cL_reads_ 87 = .ok (.iload_n 2, 1) := by decide +kernel
theorem dL_reads__88 : decode cL_reads_ 88 = .ok (.if_icmp .ne 11, 3) := by decide +kernel
theorem dL_reads__91 : decode cL_reads_ 91 = .ok (.aload_n 0, 1) := by decide +kernel
theorem dL_reads__92 : decode cL_reads_ 92 = .ok (.invokevirtual 177, 3) := by decide +kernel
theorem dL_reads__95 : decode cL_reads_ 95 = .ok (.iload_n 3, 1) := by decide +kernel
theorem dL_reads__96 : decode cL_reads_ 96 = .ok (.if_icmp .eq 5, 3) := by decide +kernel
theorem dL_reads__101 : decode cL_reads_ 101 = .ok (.iload 4, 2) := by decide +kernel
theorem dL_reads__103 : decode cL_reads_ 103 = .ok (.ifCond .ge 17, 3) := by decide +kernel
theorem dL_reads__120 : decode cL_reads_ 120 = .ok (.iload_n 1, 1) := by decide +kernel
theorem dL_reads__121 : decode cL_reads_ 121 = .ok (.iload 4, 2) := by decide +kernel
theorem dL_reads__123 : decode cL_reads_ 123 = .ok (.if_icmp .ge 17, 3) := by decide +kernel
theorem dL_reads__140 : decode cL_reads_ 140 = .ok (.iload_n 1, 1) := by decide +kernel
theorem dL_reads__141 : decode cL_reads_ 141 = .ok (.iload 4, 2) := by decide +kernel
theorem dL_reads__143 : decode cL_reads_ 143 = .ok (.if_icmp .gt 9, 3) := by decide +kernel
theorem dL_reads__152 : decode cL_reads_ 152 = .ok (.iconst 1, 1) := by decide +kernel
theorem dL_reads__153 : decode cL_reads_ 153 = .ok (.goto 4, 3) := by decide +kernel
theorem dL_reads__157 : decode cL_reads_ 157 = .ok (.ireturn, 1) := by decide +kernel
theorem dL_reads__146 : decode cL_reads_ 146 = .ok (.iload_n 2, 1) := by decide +kernel
theorem dL_reads__147 : decode cL_reads_ 147 = .ok (.iload 5, 2) := by decide +kernel
theorem dL_reads__149 : decode cL_reads_ 149 = .ok (.if_icmp .eq 7, 3) := by decide +kernel
theorem dL_reads__126 : decode cL_reads_ 126 = .ok (.iload_n 2, 1) := by decide +kernel
theorem dL_reads__127 : decode cL_reads_ 127 = .ok (.iload 5, 2) := by decide +kernel
theorem dL_reads__129 : decode cL_reads_ 129 = .ok (.if_icmp .ne 7, 3) := by decide +kernel
theorem dL_reads__132 : decode cL_reads_ 132 = .ok (.iconst 1, 1) := by decide +kernel
theorem dL_reads__133 : decode cL_reads_ 133 = .ok (.goto 24, 3) := by decide +kernel
theorem dL_reads__106 : decode cL_reads_ 106 = .ok (.iload_n 2, 1) := by decide +kernel
theorem dL_reads__107 : decode cL_reads_ 107 = .ok (.iload 5, 2) := by decide +kernel
theorem dL_reads__109 : decode cL_reads_ 109 = .ok (.if_icmp .ne 7, 3) := by decide +kernel
theorem dL_reads__112 : decode cL_reads_ 112 = .ok (.iconst 1, 1) := by decide +kernel
theorem dL_reads__113 : decode cL_reads_ 113 = .ok (.goto 44, 3) := by decide +kernel
theorem dL_reads__74 : decode cL_reads_ 74 = .ok (.aload_n 0, 1) := by decide +kernel
theorem dL_reads__75 : decode cL_reads_ 75 = .ok (.iload 6, 2) := by decide +kernel
theorem dL_reads__77 : decode cL_reads_ 77 = .ok (.invokevirtual 122, 3) := by decide +kernel
theorem dL_reads__80 : decode cL_reads_ 80 = .ok (.ifCond .eq 19, 3) := by decide +kernel
theorem dL_reads__61 : decode cL_reads_ 61 = .ok (.iconst 1, 1) := by decide +kernel
theorem dL_reads__62 : decode cL_reads_ 62 = .ok (.goto 4, 3) := by decide +kernel
theorem dL_reads__51 : decode cL_reads_ 51 = .ok (.iconst 1, 1) := by decide +kernel
theorem dL_reads__52 : decode cL_reads_ 52 = .ok (.goto 4, 3) := by decide +kernel
abbrev mL_acts : zM := (yL_acts, cL_acts, 14, (some .boolean), [])
theorem okL_acts : zMok mL_acts 6 := ⟨by decide, by decide, by decide +kernel⟩
theorem dL_acts_0 : decode cL_acts 0 = .ok (.aload_n 0, 1) := by decide +kernel
theorem dL_acts_1 : decode cL_acts 1 = .ok (.invokevirtual 98, 3) := by decide +kernel
theorem dL_acts_4 : decode cL_acts 4 = .ok (.istore 6, 2) := by decide +kernel
theorem dL_acts_6 : decode cL_acts 6 = .ok (.iload 6, 2) := by decide +kernel
theorem dL_acts_8 : decode cL_acts 8 = .ok (.ifCond .ne 7, 3) := by decide +kernel
theorem dL_acts_15 : decode cL_acts 15 = .ok (.iload_n 3, 1) := by decide +kernel
theorem dL_acts_16 : decode cL_acts 16 = .ok (.iload 6, 2) := by decide +kernel
theorem dL_acts_18 : decode cL_acts 18 = .ok (.irem, 1) := by decide +kernel
theorem dL_acts_19 : decode cL_acts 19 = .ok (.istore 7, 2) := by decide +kernel
theorem dL_acts_21 : decode cL_acts 21 = .ok (.iload_n 2, 1) := by decide +kernel
theorem dL_acts_22 : decode cL_acts 22 = .ok (.tableswitch 660 0 8 #[50, 50, 50, 247, 247, 258, 258, 414, 490], 50) := by decide +kernel
theorem dL_acts_72 : decode cL_acts 72 = .ok (.iload 4, 2) := by decide +kernel
theorem dL_acts_74 : decode cL_acts 74 = .ok (.iconst 5, 1) := by decide +kernel
theorem dL_acts_75 : decode cL_acts 75 = .ok (.irem, 1) := by decide +kernel
theorem dL_acts_76 : decode cL_acts 76 = .ok (.istore 8, 2) := by decide +kernel
theorem dL_acts_78 : decode cL_acts 78 = .ok (.iload 8, 2) := by decide +kernel
theorem dL_acts_80 : decode cL_acts 80 = .ok (.iconst 2, 1) := by decide +kernel
theorem dL_acts_81 : decode cL_acts 81 = .ok (.if_icmp .ne 26, 3) := by decide +kernel
theorem dL_acts_107 : decode cL_acts 107 = .ok (.iload 8, 2) := by decide +kernel
theorem dL_acts_109 : decode cL_acts 109 = .ok (.ifCond .ne 10, 3) := by decide +kernel
theorem dL_acts_119 : decode cL_acts 119 = .ok (.iload 8, 2) := by decide +kernel
theorem dL_acts_121 : decode cL_acts 121 = .ok (.iconst 1, 1) := by decide +kernel
theorem dL_acts_122 : decode cL_acts 122 = .ok (.if_icmp .ne 10, 3) := by decide +kernel
theorem dL_acts_132 : decode cL_acts 132 = .ok (.iload 8, 2) := by decide +kernel
theorem dL_acts_134 : decode cL_acts 134 = .ok (.iconst 2, 1) := by decide +kernel
theorem dL_acts_135 : decode cL_acts 135 = .ok (.if_icmp .ne 10, 3) := by decide +kernel
theorem dL_acts_145 : decode cL_acts 145 = .ok (.iload 8, 2) := by decide +kernel
theorem dL_acts_147 : decode cL_acts 147 = .ok (.iconst 3, 1) := by decide +kernel
theorem dL_acts_148 : decode cL_acts 148 = .ok (.if_icmp .ne 10, 3) := by decide +kernel
theorem dL_acts_158 : decode cL_acts 158 = .ok (.sipush 1500, 3) := by decide +kernel
theorem dL_acts_161 : decode cL_acts 161 = .ok (.iload 5, 2) := by decide +kernel
theorem dL_acts_163 : decode cL_acts 163 = .ok (.bipush 40, 2) := by decide +kernel
theorem dL_acts_165 : decode cL_acts 165 = .ok (.irem, 1) := by decide +kernel
theorem dL_acts_166 : decode cL_acts 166 = .ok (.iadd, 1) := by decide +kernel
theorem dL_acts_167 : decode cL_acts 167 = .ok (.istore 9, 2) := by decide +kernel
theorem dL_acts_169 : decode cL_acts 169 = .ok (.aload_n 0, 1) := by decide +kernel
theorem dL_acts_170 : decode cL_acts 170 = .ok (.iload 8, 2) := by decide +kernel
theorem dL_acts_172 : decode cL_acts 172 = .ok (.iconst 1, 1) := by decide +kernel
theorem dL_acts_173 : decode cL_acts 173 = .ok (.iload_n 3, 1) := by decide +kernel
theorem dL_acts_174 : decode cL_acts 174 = .ok (.bipush 30, 2) := by decide +kernel
theorem dL_acts_176 : decode cL_acts 176 = .ok (.irem, 1) := by decide +kernel
theorem dL_acts_177 : decode cL_acts 177 = .ok (.iadd, 1) := by decide +kernel
theorem dL_acts_178 : decode cL_acts 178 = .ok (.iload 9, 2) := by decide +kernel
theorem dL_acts_180 : decode cL_acts 180 = .ok (.iconst 1, 1) := by decide +kernel
theorem dL_acts_181 : decode cL_acts 181 = .ok (.iload_n 3, 1) := by decide +kernel
theorem dL_acts_182 : decode cL_acts 182 = .ok (.iload 5, 2) := by decide +kernel
theorem dL_acts_184 : decode cL_acts 184 = .ok (.iadd, 1) := by decide +kernel
theorem dL_acts_185 : decode cL_acts 185 = .ok (.bipush 9, 2) := by decide +kernel
theorem dL_acts_187 : decode cL_acts 187 = .ok (.irem, 1) := by decide +kernel
theorem dL_acts_188 : decode cL_acts 188 = .ok (.iadd, 1) := by decide +kernel
theorem dL_acts_189 : decode cL_acts 189 = .ok (.invokestatic 231, 3) := by decide +kernel
theorem dL_acts_192 : decode cL_acts 192 = .ok (.istore 10, 2) := by decide +kernel
theorem dL_acts_194 : decode cL_acts 194 = .ok (.iload 6, 2) := by decide +kernel
theorem dL_acts_196 : decode cL_acts 196 = .ok (.bipush 40, 2) := by decide +kernel
theorem dL_acts_198 : decode cL_acts 198 = .ok (.if_icmp .ne 18, 3) := by decide +kernel
theorem dL_acts_216 : decode cL_acts 216 = .ok (.iload 10, 2) := by decide +kernel
theorem dL_acts_218 : decode cL_acts 218 = .ok (.iload 6, 2) := by decide +kernel
theorem dL_acts_220 : decode cL_acts 220 = .ok (.if_icmp .ne 47, 3) := by decide +kernel
theorem dL_acts_223 : decode cL_acts 223 = .ok (.aload_n 0, 1) := by decide +kernel
theorem dL_acts_224 : decode cL_acts 224 = .ok (.iload 6, 2) := by decide +kernel
theorem dL_acts_226 : decode cL_acts 226 = .ok (.invokevirtual 122, 3) := by decide +kernel
theorem dL_acts_229 : decode cL_acts 229 = .ok (.ifCond .ne 38, 3) := by decide +kernel
theorem dL_acts_232 : decode cL_acts 232 = .ok (.aload_n 0, 1) := by decide +kernel
theorem dL_acts_233 : decode cL_acts 233 = .ok (.iload 6, 2) := by decide +kernel
theorem dL_acts_235 : decode cL_acts 235 = .ok (.invokevirtual 128, 3) := by decide +kernel
theorem dL_acts_238 : decode cL_acts 238 = .ok (.ifCond .ne 29, 3) := by decide +kernel
theorem dL_acts_241 : decode cL_acts 241 = .ok (.aload_n 0, 1) := by decide +kernel
theorem dL_acts_242 : decode cL_acts 242 = .ok (.iload 6, 2) := by decide +kernel
theorem dL_acts_244 : decode cL_acts 244 = .ok (.invokevirtual 109, 3) := by decide +kernel
theorem dL_acts_247 : decode cL_acts 247 = .ok (.iload 8, 2) := by decide +kernel
theorem dL_acts_249 : decode cL_acts 249 = .ok (.if_icmp .ne 18, 3) := by decide +kernel
theorem dL_acts_252 : decode cL_acts 252 = .ok (.aload_n 0, 1) := by decide +kernel
theorem dL_acts_253 : decode cL_acts 253 = .ok (.iload 6, 2) := by decide +kernel
theorem dL_acts_255 : decode cL_acts 255 = .ok (.invokevirtual 114, 3) := by decide +kernel
theorem dL_acts_258 : decode cL_acts 258 = .ok (.iload 9, 2) := by decide +kernel
theorem dL_acts_260 : decode cL_acts 260 = .ok (.if_icmp .ne 7, 3) := by decide +kernel
theorem dL_acts_263 : decode cL_acts 263 = .ok (.iconst 1, 1) := by decide +kernel
theorem dL_acts_264 : decode cL_acts 264 = .ok (.goto 4, 3) := by decide +kernel
theorem dL_acts_268 : decode cL_acts 268 = .ok (.ireturn, 1) := by decide +kernel
theorem dL_acts_201 : decode cL_acts 201 = .ok (.iload 10, 2) := by decide +kernel
theorem dL_acts_203 : decode cL_acts 203 = .ok (.bipush (-103), 2) := by decide +kernel
theorem dL_acts_205 : decode cL_acts 205 = .ok (.if_icmp .ne 7, 3) := by decide +kernel
theorem dL_acts_208 : decode cL_acts 208 = .ok (.iconst 1, 1) := by decide +kernel
theorem dL_acts_209 : decode cL_acts 209 = .ok (.goto 59, 3) := by decide +kernel
theorem dL_acts_151 : decode cL_acts 151 = .ok (.iload 5, 2) := by decide +kernel
theorem dL_acts_153 : decode cL_acts 153 = .ok (.iconst 4, 1) := by decide +kernel
theorem dL_acts_154 : decode cL_acts 154 = .ok (.irem, 1) := by decide +kernel
theorem dL_acts_155 : decode cL_acts 155 = .ok (.goto 12, 3) := by decide +kernel
theorem dL_acts_138 : decode cL_acts 138 = .ok (.iload 5, 2) := by decide +kernel
theorem dL_acts_140 : decode cL_acts 140 = .ok (.iload_n 1, 1) := by decide +kernel
theorem dL_acts_141 : decode cL_acts 141 = .ok (.irem, 1) := by decide +kernel
theorem dL_acts_142 : decode cL_acts 142 = .ok (.goto 25, 3) := by decide +kernel
theorem dL_acts_125 : decode cL_acts 125 = .ok (.iload 5, 2) := by decide +kernel
theorem dL_acts_127 : decode cL_acts 127 = .ok (.iconst 4, 1) := by decide +kernel
theorem dL_acts_128 : decode cL_acts 128 = .ok (.irem, 1) := by decide +kernel
theorem dL_acts_129 : decode cL_acts 129 = .ok (.goto 38, 3) := by decide +kernel
theorem dL_acts_112 : decode cL_acts 112 = .ok (.iload 5, 2) := by decide +kernel
theorem dL_acts_114 : decode cL_acts 114 = .ok (.iconst 5, 1) := by decide +kernel
theorem dL_acts_115 : decode cL_acts 115 = .ok (.irem, 1) := by decide +kernel
theorem dL_acts_116 : decode cL_acts 116 = .ok (.goto 51, 3) := by decide +kernel
theorem dL_acts_84 : decode cL_acts 84 = .ok (.iload_n 1, 1) := by decide +kernel
theorem dL_acts_85 : decode cL_acts 85 = .ok (.ifCond .ne 22, 3) := by decide +kernel
theorem dL_acts_88 : decode cL_acts 88 = .ok (.aload_n 0, 1) := by decide +kernel
theorem dL_acts_89 : decode cL_acts 89 = .ok (.iconst 2, 1) := by decide +kernel
theorem dL_acts_90 : decode cL_acts 90 = .ok (.iconst 5, 1) := by decide +kernel
theorem dL_acts_91 : decode cL_acts 91 = .ok (.iconst 0, 1) := by decide +kernel
theorem dL_acts_92 : decode cL_acts 92 = .ok (.iconst 1, 1) := by decide +kernel
theorem dL_acts_93 : decode cL_acts 93 = .ok (.invokestatic 231, 3) := by decide +kernel
theorem dL_acts_96 : decode cL_acts 96 = .ok (.bipush (-102), 2) := by decide +kernel
theorem dL_acts_98 : decode cL_acts 98 = .ok (.if_icmp .ne 7, 3) := by decide +kernel
theorem dL_acts_101 : decode cL_acts 101 = .ok (.iconst 1, 1) := by decide +kernel
theorem dL_acts_102 : decode cL_acts 102 = .ok (.goto 4, 3) := by decide +kernel
theorem dL_acts_106 : decode cL_acts 106 = .ok (.ireturn, 1) := by decide +kernel
theorem dL_acts_11 : decode cL_acts 11 = .ok (.iconst 0, 1) := by decide +kernel
theorem dL_acts_12 : decode cL_acts 12 = .ok (.goto 7, 3) := by decide +kernel
theorem dL_acts_269 : decode cL_acts 269 = .ok (.aload_n 0, 1) := by decide +kernel
theorem dL_acts_270 : decode cL_acts 270 = .ok (.iconst 1, 1) := by decide +kernel
theorem dL_acts_271 : decode cL_acts 271 = .ok (.iload 5, 2) := by decide +kernel
theorem dL_acts_273 : decode cL_acts 273 = .ok (.iconst 4, 1) := by decide +kernel
theorem dL_acts_274 : decode cL_acts 274 = .ok (.irem, 1) := by decide +kernel
theorem dL_acts_275 : decode cL_acts 275 = .ok (.iadd, 1) := by decide +kernel
theorem dL_acts_276 : decode cL_acts 276 = .ok (.invokestatic 235, 3) := by decide +kernel
theorem cw_RL_235 : zCwS RL 235 mL_reads_ := zall [1204, 1205, 18, 1206] (by decide +kernel) (by decide +kernel)
theorem dL_acts_279 : decode cL_acts 279 = .ok (.ireturn, 1) := by decide +kernel
theorem dL_acts_280 : decode cL_acts 280 = .ok (.iload 6, 2) := by decide +kernel
theorem dL_acts_282 : decode cL_acts 282 = .ok (.ifCond .ne 28, 3) := by decide +kernel
theorem dL_acts_310 : decode cL_acts 310 = .ok (.iload 4, 2) := by decide +kernel
theorem dL_acts_312 : decode cL_acts 312 = .ok (.iconst 2, 1) := by decide +kernel
theorem dL_acts_313 : decode cL_acts 313 = .ok (.irem, 1) := by decide +kernel
theorem dL_acts_314 : decode cL_acts 314 = .ok (.ifCond .ne 7, 3) := by decide +kernel
theorem dL_acts_317 : decode cL_acts 317 = .ok (.iconst 1, 1) := by decide +kernel
theorem dL_acts_318 : decode cL_acts 318 = .ok (.goto 4, 3) := by decide +kernel
theorem dL_acts_322 : decode cL_acts 322 = .ok (.istore 8, 2) := by decide +kernel
theorem dL_acts_324 : decode cL_acts 324 = .ok (.aload_n 0, 1) := by decide +kernel
theorem dL_acts_325 : decode cL_acts 325 = .ok (.iload 7, 2) := by decide +kernel
theorem dL_acts_327 : decode cL_acts 327 = .ok (.invokevirtual 128, 3) := by decide +kernel
theorem dL_acts_330 : decode cL_acts 330 = .ok (.iload 8, 2) := by decide +kernel
theorem dL_acts_332 : decode cL_acts 332 = .ok (.if_icmp .eq 7, 3) := by decide +kernel
theorem dL_acts_339 : decode cL_acts 339 = .ok (.iconst 0, 1) := by decide +kernel
theorem dL_acts_340 : decode cL_acts 340 = .ok (.istore 9, 2) := by decide +kernel
theorem dL_acts_342 : decode cL_acts 342 = .ok (.aload_n 0, 1) := by decide +kernel
theorem dL_acts_343 : decode cL_acts 343 = .ok (.invokevirtual 221, 3) := by decide +kernel
theorem dL_acts_346 : decode cL_acts 346 = .ok (.istore 10, 2) := by decide +kernel
theorem dL_acts_348 : decode cL_acts 348 = .ok (.aload_n 0, 1) := by decide +kernel
theorem dL_acts_349 : decode cL_acts 349 = .ok (.invokevirtual 174, 3) := by decide +kernel
theorem dL_acts_352 : decode cL_acts 352 = .ok (.istore 11, 2) := by decide +kernel
theorem dL_acts_354 : decode cL_acts 354 = .ok (.aload_n 0, 1) := by decide +kernel
theorem dL_acts_355 : decode cL_acts 355 = .ok (.bipush 6, 2) := by decide +kernel
theorem dL_acts_357 : decode cL_acts 357 = .ok (.iload 4, 2) := by decide +kernel
theorem dL_acts_359 : decode cL_acts 359 = .ok (.iconst 2, 1) := by decide +kernel
theorem dL_acts_360 : decode cL_acts 360 = .ok (.irem, 1) := by decide +kernel
theorem dL_acts_361 : decode cL_acts 361 = .ok (.iadd, 1) := by decide +kernel
theorem dL_acts_362 : decode cL_acts 362 = .ok (.iload 7, 2) := by decide +kernel
theorem dL_acts_364 : decode cL_acts 364 = .ok (.iconst 0, 1) := by decide +kernel
theorem dL_acts_365 : decode cL_acts 365 = .ok (.iconst 0, 1) := by decide +kernel
theorem dL_acts_366 : decode cL_acts 366 = .ok (.invokestatic 231, 3) := by decide +kernel
theorem dL_acts_369 : decode cL_acts 369 = .ok (.istore 12, 2) := by decide +kernel
theorem dL_acts_371 : decode cL_acts 371 = .ok (.iload 9, 2) := by decide +kernel
theorem dL_acts_373 : decode cL_acts 373 = .ok (.ifCond .ne 16, 3) := by decide +kernel
theorem dL_acts_376 : decode cL_acts 376 = .ok (.iload 12, 2) := by decide +kernel
theorem dL_acts_378 : decode cL_acts 378 = .ok (.bipush (-103), 2) := by decide +kernel
theorem dL_acts_380 : decode cL_acts 380 = .ok (.if_icmp .ne 7, 3) := by decide +kernel
theorem dL_acts_383 : decode cL_acts 383 = .ok (.iconst 1, 1) := by decide +kernel
theorem dL_acts_384 : decode cL_acts 384 = .ok (.goto 4, 3) := by decide +kernel
theorem dL_acts_388 : decode cL_acts 388 = .ok (.ireturn, 1) := by decide +kernel
theorem dL_acts_335 : decode cL_acts 335 = .ok (.iconst 1, 1) := by decide +kernel
theorem dL_acts_336 : decode cL_acts 336 = .ok (.goto 4, 3) := by decide +kernel
theorem dL_acts_389 : decode cL_acts 389 = .ok (.iload 12, 2) := by decide +kernel
theorem dL_acts_391 : decode cL_acts 391 = .ok (.aload_n 0, 1) := by decide +kernel
theorem dL_acts_392 : decode cL_acts 392 = .ok (.invokevirtual 189, 3) := by decide +kernel
theorem dL_acts_395 : decode cL_acts 395 = .ok (.if_icmp .ne 39, 3) := by decide +kernel
theorem dL_acts_398 : decode cL_acts 398 = .ok (.aload_n 0, 1) := by decide +kernel
theorem dL_acts_399 : decode cL_acts 399 = .ok (.iload 7, 2) := by decide +kernel
theorem dL_acts_401 : decode cL_acts 401 = .ok (.invokevirtual 128, 3) := by decide +kernel
theorem dL_acts_404 : decode cL_acts 404 = .ok (.iload 8, 2) := by decide +kernel
theorem dL_acts_406 : decode cL_acts 406 = .ok (.if_icmp .ne 28, 3) := by decide +kernel
theorem dL_acts_409 : decode cL_acts 409 = .ok (.iload 8, 2) := by decide +kernel
theorem dL_acts_411 : decode cL_acts 411 = .ok (.ifCond .eq 19, 3) := by decide +kernel
theorem dL_acts_414 : decode cL_acts 414 = .ok (.iload 7, 2) := by decide +kernel
theorem dL_acts_416 : decode cL_acts 416 = .ok (.iload 10, 2) := by decide +kernel
theorem dL_acts_418 : decode cL_acts 418 = .ok (.if_icmp .ne 12, 3) := by decide +kernel
theorem dL_acts_430 : decode cL_acts 430 = .ok (.iconst 1, 1) := by decide +kernel
theorem dL_acts_431 : decode cL_acts 431 = .ok (.goto 4, 3) := by decide +kernel
theorem dL_acts_435 : decode cL_acts 435 = .ok (.ireturn, 1) := by decide +kernel
theorem dL_acts_421 : decode cL_acts 421 = .ok (.aload_n 0, 1) := by decide +kernel
theorem dL_acts_422 : decode cL_acts 422 = .ok (.invokevirtual 174, 3) := by decide +kernel
theorem dL_acts_425 : decode cL_acts 425 = .ok (.iload 11, 2) := by decide +kernel
theorem dL_acts_427 : decode cL_acts 427 = .ok (.if_icmp .eq 7, 3) := by decide +kernel
theorem dL_acts_285 : decode cL_acts 285 = .ok (.aload_n 0, 1) := by decide +kernel
theorem dL_acts_286 : decode cL_acts 286 = .ok (.bipush 6, 2) := by decide +kernel
theorem dL_acts_288 : decode cL_acts 288 = .ok (.iload 4, 2) := by decide +kernel
theorem dL_acts_290 : decode cL_acts 290 = .ok (.iconst 2, 1) := by decide +kernel
theorem dL_acts_291 : decode cL_acts 291 = .ok (.irem, 1) := by decide +kernel
theorem dL_acts_292 : decode cL_acts 292 = .ok (.iadd, 1) := by decide +kernel
theorem dL_acts_293 : decode cL_acts 293 = .ok (.iconst 0, 1) := by decide +kernel
theorem dL_acts_294 : decode cL_acts 294 = .ok (.iconst 0, 1) := by decide +kernel
theorem dL_acts_295 : decode cL_acts 295 = .ok (.iconst 0, 1) := by decide +kernel
theorem dL_acts_296 : decode cL_acts 296 = .ok (.invokestatic 231, 3) := by decide +kernel
theorem dL_acts_299 : decode cL_acts 299 = .ok (.bipush (-101), 2) := by decide +kernel
theorem dL_acts_301 : decode cL_acts 301 = .ok (.if_icmp .ne 7, 3) := by decide +kernel
theorem dL_acts_304 : decode cL_acts 304 = .ok (.iconst 1, 1) := by decide +kernel
theorem dL_acts_305 : decode cL_acts 305 = .ok (.goto 4, 3) := by decide +kernel
theorem dL_acts_309 : decode cL_acts 309 = .ok (.ireturn, 1) := by decide +kernel
theorem dL_acts_321 : decode cL_acts 321 = .ok (.iconst 0, 1) := by decide +kernel
theorem dL_acts_436 : decode cL_acts 436 = .ok (.iload 6, 2) := by decide +kernel
theorem dL_acts_438 : decode cL_acts 438 = .ok (.ifCond .ne 23, 3) := by decide +kernel
theorem dL_acts_461 : decode cL_acts 461 = .ok (.aload_n 0, 1) := by decide +kernel
theorem dL_acts_462 : decode cL_acts 462 = .ok (.iload 7, 2) := by decide +kernel
theorem dL_acts_464 : decode cL_acts 464 = .ok (.invokevirtual 119, 3) := by decide +kernel
theorem dL_acts_467 : decode cL_acts 467 = .ok (.istore 8, 2) := by decide +kernel
theorem dL_acts_469 : decode cL_acts 469 = .ok (.aload_n 0, 1) := by decide +kernel
theorem dL_acts_470 : decode cL_acts 470 = .ok (.bipush 9, 2) := by decide +kernel
theorem dL_acts_472 : decode cL_acts 472 = .ok (.iload 7, 2) := by decide +kernel
theorem dL_acts_474 : decode cL_acts 474 = .ok (.iconst 1, 1) := by decide +kernel
theorem dL_acts_475 : decode cL_acts 475 = .ok (.iload 5, 2) := by decide +kernel
theorem dL_acts_477 : decode cL_acts 477 = .ok (.bipush 9, 2) := by decide +kernel
theorem dL_acts_479 : decode cL_acts 479 = .ok (.irem, 1) := by decide +kernel
theorem dL_acts_480 : decode cL_acts 480 = .ok (.iadd, 1) := by decide +kernel
theorem dL_acts_481 : decode cL_acts 481 = .ok (.iconst 0, 1) := by decide +kernel
theorem dL_acts_482 : decode cL_acts 482 = .ok (.invokestatic 231, 3) := by decide +kernel
theorem dL_acts_485 : decode cL_acts 485 = .ok (.iload 8, 2) := by decide +kernel
theorem dL_acts_487 : decode cL_acts 487 = .ok (.if_icmp .ne 23, 3) := by decide +kernel
theorem dL_acts_490 : decode cL_acts 490 = .ok (.aload_n 0, 1) := by decide +kernel
theorem dL_acts_491 : decode cL_acts 491 = .ok (.iload 7, 2) := by decide +kernel
theorem dL_acts_493 : decode cL_acts 493 = .ok (.invokevirtual 119, 3) := by decide +kernel
theorem dL_acts_496 : decode cL_acts 496 = .ok (.iconst 1, 1) := by decide +kernel
theorem dL_acts_497 : decode cL_acts 497 = .ok (.iload 5, 2) := by decide +kernel
theorem dL_acts_499 : decode cL_acts 499 = .ok (.bipush 9, 2) := by decide +kernel
theorem dL_acts_501 : decode cL_acts 501 = .ok (.irem, 1) := by decide +kernel
theorem dL_acts_502 : decode cL_acts 502 = .ok (.iadd, 1) := by decide +kernel
theorem dL_acts_503 : decode cL_acts 503 = .ok (.if_icmp .ne 7, 3) := by decide +kernel
theorem dL_acts_506 : decode cL_acts 506 = .ok (.iconst 1, 1) := by decide +kernel
theorem dL_acts_507 : decode cL_acts 507 = .ok (.goto 4, 3) := by decide +kernel
theorem dL_acts_511 : decode cL_acts 511 = .ok (.ireturn, 1) := by decide +kernel
theorem dL_acts_441 : decode cL_acts 441 = .ok (.aload_n 0, 1) := by decide +kernel
theorem dL_acts_442 : decode cL_acts 442 = .ok (.bipush 9, 2) := by decide +kernel
theorem dL_acts_444 : decode cL_acts 444 = .ok (.iconst 0, 1) := by decide +kernel
theorem dL_acts_445 : decode cL_acts 445 = .ok (.iconst 1, 1) := by decide +kernel
theorem dL_acts_446 : decode cL_acts 446 = .ok (.iconst 0, 1) := by decide +kernel
theorem dL_acts_447 : decode cL_acts 447 = .ok (.invokestatic 231, 3) := by decide +kernel
theorem dL_acts_450 : decode cL_acts 450 = .ok (.bipush (-101), 2) := by decide +kernel
theorem dL_acts_452 : decode cL_acts 452 = .ok (.if_icmp .ne 7, 3) := by decide +kernel
theorem dL_acts_455 : decode cL_acts 455 = .ok (.iconst 1, 1) := by decide +kernel
theorem dL_acts_456 : decode cL_acts 456 = .ok (.goto 4, 3) := by decide +kernel
theorem dL_acts_460 : decode cL_acts 460 = .ok (.ireturn, 1) := by decide +kernel
theorem dL_acts_512 : decode cL_acts 512 = .ok (.iload_n 3, 1) := by decide +kernel
theorem dL_acts_513 : decode cL_acts 513 = .ok (.aload_n 0, 1) := by decide +kernel
theorem dL_acts_514 : decode cL_acts 514 = .ok (.invokevirtual 133, 3) := by decide +kernel
theorem dL_acts_517 : decode cL_acts 517 = .ok (.irem, 1) := by decide +kernel
theorem dL_acts_518 : decode cL_acts 518 = .ok (.istore 8, 2) := by decide +kernel
theorem dL_acts_520 : decode cL_acts 520 = .ok (.iload 4, 2) := by decide +kernel
theorem dL_acts_522 : decode cL_acts 522 = .ok (.aload_n 0, 1) := by decide +kernel
theorem dL_acts_523 : decode cL_acts 523 = .ok (.invokevirtual 133, 3) := by decide +kernel
theorem dL_acts_526 : decode cL_acts 526 = .ok (.irem, 1) := by decide +kernel
theorem dL_acts_527 : decode cL_acts 527 = .ok (.istore 9, 2) := by decide +kernel
theorem dL_acts_529 : decode cL_acts 529 = .ok (.aload_n 0, 1) := by decide +kernel
theorem dL_acts_530 : decode cL_acts 530 = .ok (.iload 8, 2) := by decide +kernel
theorem dL_acts_532 : decode cL_acts 532 = .ok (.iload 5, 2) := by decide +kernel
theorem dL_acts_534 : decode cL_acts 534 = .ok (.iconst 5, 1) := by decide +kernel
theorem dL_acts_535 : decode cL_acts 535 = .ok (.irem, 1) := by decide +kernel
theorem dL_acts_536 : decode cL_acts 536 = .ok (.invokevirtual 136, 3) := by decide +kernel
theorem dL_acts_539 : decode cL_acts 539 = .ok (.istore 10, 2) := by decide +kernel
theorem dL_acts_541 : decode cL_acts 541 = .ok (.aload_n 0, 1) := by decide +kernel
theorem dL_acts_542 : decode cL_acts 542 = .ok (.iload 9, 2) := by decide +kernel
theorem dL_acts_544 : decode cL_acts 544 = .ok (.iload 5, 2) := by decide +kernel
theorem dL_acts_546 : decode cL_acts 546 = .ok (.iconst 5, 1) := by decide +kernel
theorem dL_acts_547 : decode cL_acts 547 = .ok (.irem, 1) := by decide +kernel
theorem dL_acts_548 : decode cL_acts 548 = .ok (.invokevirtual 136, 3) := by decide +kernel
theorem dL_acts_551 : decode cL_acts 551 = .ok (.istore 11, 2) := by decide +kernel
theorem dL_acts_553 : decode cL_acts 553 = .ok (.aload_n 0, 1) := by decide +kernel
theorem dL_acts_554 : decode cL_acts 554 = .ok (.iload 5, 2) := by decide +kernel
theorem dL_acts_556 : decode cL_acts 556 = .ok (.iconst 5, 1) := by decide +kernel
theorem dL_acts_557 : decode cL_acts 557 = .ok (.irem, 1) := by decide +kernel
theorem dL_acts_558 : decode cL_acts 558 = .ok (.invokevirtual 238, 3) := by decide +kernel
theorem cw_RL_238 : zCwV RL 238 mX9_deviceOwners := zall [1211, 1212, 1213, 31, 1214] (by decide +kernel) (by decide +kernel)
theorem dL_acts_561 : decode cL_acts 561 = .ok (.istore 12, 2) := by decide +kernel
theorem dL_acts_563 : decode cL_acts 563 = .ok (.aload_n 0, 1) := by decide +kernel
theorem dL_acts_564 : decode cL_acts 564 = .ok (.bipush 10, 2) := by decide +kernel
theorem dL_acts_566 : decode cL_acts 566 = .ok (.iload 8, 2) := by decide +kernel
theorem dL_acts_568 : decode cL_acts 568 = .ok (.iload 9, 2) := by decide +kernel
theorem dL_acts_570 : decode cL_acts 570 = .ok (.iload 5, 2) := by decide +kernel
theorem dL_acts_572 : decode cL_acts 572 = .ok (.iconst 5, 1) := by decide +kernel
theorem dL_acts_573 : decode cL_acts 573 = .ok (.irem, 1) := by decide +kernel
theorem dL_acts_574 : decode cL_acts 574 = .ok (.invokestatic 231, 3) := by decide +kernel
theorem dL_acts_577 : decode cL_acts 577 = .ok (.istore 13, 2) := by decide +kernel
theorem dL_acts_579 : decode cL_acts 579 = .ok (.iload 8, 2) := by decide +kernel
theorem dL_acts_581 : decode cL_acts 581 = .ok (.iload 9, 2) := by decide +kernel
theorem dL_acts_583 : decode cL_acts 583 = .ok (.if_icmp .ne 16, 3) := by decide +kernel
theorem dL_acts_586 : decode cL_acts 586 = .ok (.iload 13, 2) := by decide +kernel
theorem dL_acts_588 : decode cL_acts 588 = .ok (.bipush (-102), 2) := by decide +kernel
theorem dL_acts_590 : decode cL_acts 590 = .ok (.if_icmp .ne 7, 3) := by decide +kernel
theorem dL_acts_593 : decode cL_acts 593 = .ok (.iconst 1, 1) := by decide +kernel
theorem dL_acts_594 : decode cL_acts 594 = .ok (.goto 4, 3) := by decide +kernel
theorem dL_acts_598 : decode cL_acts 598 = .ok (.ireturn, 1) := by decide +kernel
theorem dL_acts_599 : decode cL_acts 599 = .ok (.iload 10, 2) := by decide +kernel
theorem dL_acts_601 : decode cL_acts 601 = .ok (.ifCond .ne 18, 3) := by decide +kernel
theorem dL_acts_604 : decode cL_acts 604 = .ok (.iload 13, 2) := by decide +kernel
theorem dL_acts_606 : decode cL_acts 606 = .ok (.bipush (-103), 2) := by decide +kernel
theorem dL_acts_608 : decode cL_acts 608 = .ok (.if_icmp .ne 7, 3) := by decide +kernel
theorem dL_acts_611 : decode cL_acts 611 = .ok (.iconst 1, 1) := by decide +kernel
theorem dL_acts_612 : decode cL_acts 612 = .ok (.goto 69, 3) := by decide +kernel
theorem dL_acts_681 : decode cL_acts 681 = .ok (.ireturn, 1) := by decide +kernel
theorem dL_acts_619 : decode cL_acts 619 = .ok (.iload 13, 2) := by decide +kernel
theorem dL_acts_621 : decode cL_acts 621 = .ok (.iload 12, 2) := by decide +kernel
theorem dL_acts_623 : decode cL_acts 623 = .ok (.iload 11, 2) := by decide +kernel
theorem dL_acts_625 : decode cL_acts 625 = .ok (.ifCond .eq 7, 3) := by decide +kernel
theorem dL_acts_632 : decode cL_acts 632 = .ok (.iconst 0, 1) := by decide +kernel
theorem dL_acts_633 : decode cL_acts 633 = .ok (.isub, 1) := by decide +kernel
theorem dL_acts_634 : decode cL_acts 634 = .ok (.if_icmp .ne 46, 3) := by decide +kernel
theorem dL_acts_637 : decode cL_acts 637 = .ok (.iload 13, 2) := by decide +kernel
theorem dL_acts_639 : decode cL_acts 639 = .ok (.aload_n 0, 1) := by decide +kernel
theorem dL_acts_640 : decode cL_acts 640 = .ok (.iload 5, 2) := by decide +kernel
theorem dL_acts_642 : decode cL_acts 642 = .ok (.iconst 5, 1) := by decide +kernel
theorem dL_acts_643 : decode cL_acts 643 = .ok (.irem, 1) := by decide +kernel
theorem dL_acts_644 : decode cL_acts 644 = .ok (.invokevirtual 238, 3) := by decide +kernel
theorem dL_acts_647 : decode cL_acts 647 = .ok (.if_icmp .ne 33, 3) := by decide +kernel
theorem dL_acts_650 : decode cL_acts 650 = .ok (.aload_n 0, 1) := by decide +kernel
theorem dL_acts_651 : decode cL_acts 651 = .ok (.iload 8, 2) := by decide +kernel
theorem dL_acts_653 : decode cL_acts 653 = .ok (.iload 5, 2) := by decide +kernel
theorem dL_acts_655 : decode cL_acts 655 = .ok (.iconst 5, 1) := by decide +kernel
theorem dL_acts_656 : decode cL_acts 656 = .ok (.irem, 1) := by decide +kernel
theorem dL_acts_657 : decode cL_acts 657 = .ok (.invokevirtual 136, 3) := by decide +kernel
theorem dL_acts_660 : decode cL_acts 660 = .ok (.ifCond .ne 20, 3) := by decide +kernel
theorem dL_acts_663 : decode cL_acts 663 = .ok (.aload_n 0, 1) := by decide +kernel
theorem dL_acts_664 : decode cL_acts 664 = .ok (.iload 9, 2) := by decide +kernel
theorem dL_acts_666 : decode cL_acts 666 = .ok (.iload 5, 2) := by decide +kernel
theorem dL_acts_668 : decode cL_acts 668 = .ok (.iconst 5, 1) := by decide +kernel
theorem dL_acts_669 : decode cL_acts 669 = .ok (.irem, 1) := by decide +kernel
theorem dL_acts_670 : decode cL_acts 670 = .ok (.invokevirtual 136, 3) := by decide +kernel
theorem dL_acts_673 : decode cL_acts 673 = .ok (.ifCond .eq 7, 3) := by decide +kernel
theorem dL_acts_676 : decode cL_acts 676 = .ok (.iconst 1, 1) := by decide +kernel
theorem dL_acts_677 : decode cL_acts 677 = .ok (.goto 4, 3) := by decide +kernel
theorem dL_acts_628 : decode cL_acts 628 = .ok (.iconst 1, 1) := by decide +kernel
theorem dL_acts_629 : decode cL_acts 629 = .ok (.goto 4, 3) := by decide +kernel
theorem dL_acts_682 : decode cL_acts 682 = .ok (.aload_n 0, 1) := by decide +kernel
theorem dL_acts_683 : decode cL_acts 683 = .ok (.invokevirtual 174, 3) := by decide +kernel
theorem dL_acts_686 : decode cL_acts 686 = .ok (.istore 8, 2) := by decide +kernel
theorem dL_acts_688 : decode cL_acts 688 = .ok (.aload_n 0, 1) := by decide +kernel
theorem dL_acts_689 : decode cL_acts 689 = .ok (.invokevirtual 177, 3) := by decide +kernel
theorem dL_acts_692 : decode cL_acts 692 = .ok (.istore 9, 2) := by decide +kernel
theorem dL_acts_694 : decode cL_acts 694 = .ok (.aload_n 0, 1) := by decide +kernel
theorem dL_acts_695 : decode cL_acts 695 = .ok (.invokevirtual 189, 3) := by decide +kernel
theorem dL_acts_698 : decode cL_acts 698 = .ok (.istore 10, 2) := by decide +kernel
theorem dL_acts_700 : decode cL_acts 700 = .ok (.aload_n 0, 1) := by decide +kernel
theorem dL_acts_701 : decode cL_acts 701 = .ok (.invokevirtual 195, 3) := by decide +kernel
theorem dL_acts_704 : decode cL_acts 704 = .ok (.istore 11, 2) := by decide +kernel
theorem dL_acts_706 : decode cL_acts 706 = .ok (.aload_n 0, 1) := by decide +kernel
theorem dL_acts_707 : decode cL_acts 707 = .ok (.bipush 8, 2) := by decide +kernel
theorem dL_acts_709 : decode cL_acts 709 = .ok (.iconst 0, 1) := by decide +kernel
theorem dL_acts_710 : decode cL_acts 710 = .ok (.iconst 0, 1) := by decide +kernel
theorem dL_acts_711 : decode cL_acts 711 = .ok (.iconst 0, 1) := by decide +kernel
theorem dL_acts_712 : decode cL_acts 712 = .ok (.invokestatic 231, 3) := by decide +kernel
theorem dL_acts_715 : decode cL_acts 715 = .ok (.iload 11, 2) := by decide +kernel
theorem dL_acts_717 : decode cL_acts 717 = .ok (.if_icmp .ne 50, 3) := by decide +kernel
theorem dL_acts_720 : decode cL_acts 720 = .ok (.aload_n 0, 1) := by decide +kernel
theorem dL_acts_721 : decode cL_acts 721 = .ok (.invokevirtual 174, 3) := by decide +kernel
theorem dL_acts_724 : decode cL_acts 724 = .ok (.iload 8, 2) := by decide +kernel
theorem dL_acts_726 : decode cL_acts 726 = .ok (.if_icmp .ne 41, 3) := by decide +kernel
theorem dL_acts_729 : decode cL_acts 729 = .ok (.aload_n 0, 1) := by decide +kernel
theorem dL_acts_730 : decode cL_acts 730 = .ok (.invokevirtual 177, 3) := by decide +kernel
theorem dL_acts_733 : decode cL_acts 733 = .ok (.iload 9, 2) := by decide +kernel
theorem dL_acts_735 : decode cL_acts 735 = .ok (.if_icmp .ne 32, 3) := by decide +kernel
theorem dL_acts_738 : decode cL_acts 738 = .ok (.aload_n 0, 1) := by decide +kernel
theorem dL_acts_739 : decode cL_acts 739 = .ok (.invokevirtual 189, 3) := by decide +kernel
theorem dL_acts_742 : decode cL_acts 742 = .ok (.iload 10, 2) := by decide +kernel
theorem dL_acts_744 : decode cL_acts 744 = .ok (.if_icmp .ne 23, 3) := by decide +kernel
theorem dL_acts_747 : decode cL_acts 747 = .ok (.aload_n 0, 1) := by decide +kernel
theorem dL_acts_748 : decode cL_acts 748 = .ok (.invokevirtual 195, 3) := by decide +kernel
theorem dL_acts_751 : decode cL_acts 751 = .ok (.ifCond .ne 16, 3) := by decide +kernel
theorem dL_acts_754 : decode cL_acts 754 = .ok (.aload_n 0, 1) := by decide +kernel
theorem dL_acts_755 : decode cL_acts 755 = .ok (.invokevirtual 101, 3) := by decide +kernel
theorem dL_acts_758 : decode cL_acts 758 = .ok (.iload 10, 2) := by decide +kernel
theorem dL_acts_760 : decode cL_acts 760 = .ok (.if_icmp .ne 7, 3) := by decide +kernel
theorem dL_acts_763 : decode cL_acts 763 = .ok (.iconst 1, 1) := by decide +kernel
theorem dL_acts_764 : decode cL_acts 764 = .ok (.goto 4, 3) := by decide +kernel
theorem dL_acts_768 : decode cL_acts 768 = .ok (.ireturn, 1) := by decide +kernel

set_option maxRecDepth 20000 in
set_option maxHeartbeats 2000000 in
theorem sL_reads_ {l : Launch} {w : zW} (hfl : l.stackTraces = false) {σ : zS} {D : zBk} {x : Int} (hz : zOK σ) (hB : bK σ = D) (hW : WF D) (hP1 : 1 ≤ D 1 0) (hN : HN σ) (hA : HBA σ) (hx : 1 ≤ x ∧ x ≤ 40) : Sp l w mL_reads_ 11 1 [zf 9 0, zi x] σ (zqv (some (zi 1)) (fun τ => AP σ τ D (rdB D x))) := by
  obtain ⟨Q, hQ⟩ : ∃ Q : zQ, Q = (zqv (some (zi 1)) (fun τ => AP σ τ D (rdB D x))) := ⟨_, rfl⟩
  rw [← hQ]
  refine zx_enter hfl (by decide) rfl 6 rfl ?_
  show zX l w mL_reads_ (zMQ w 11 1 Q) 0 [zf 9 0, zi x, zu, zu, zu, zu, zu, zu] [] 0 σ
  have hzD := hzDof hB hz
  have hn1 : 0 ≤ D 1 0 ∧ D 1 0 ≤ 8 := hW.1.1
  have hn12 : 0 ≤ D 12 0 ∧ D 12 0 ≤ 40 := hW.1.2.2.2
  have hwl : (wP D (Ht D) : Int) < D 1 0 := wP_l hW hP1
  have hwy := wY_b hW hP1
  have hws := wS_b hW
  have hwa : (wP D (Hd D x (-1)) : Int) < D 1 0 := wP_l hW hP1
  have hwb := wY_b2 (H := Hd D x (-1)) hW hP1
  have hcb := cuc_b hW
  have hnb := nx_b2 hW
  have hUb := U_b D (D 12 0).toNat
  have hnx := nx_U hW
  have hcs := cuc_says hW hx.1
  refine zx_aloadN dL_reads__0 rfl rfl ?_
  refine zx_iloadN dL_reads__1 rfl rfl ?_
  refine zy_cvR [zi x] (fX9_printerAfter  hfl hz hB hW hP1 (by first | exact hz _ _ | assumption | exact zr_b _ | exact zcmp_r _ _ | exact hzD _ _ | exact zr3 (tS_b hW _) | exact zr3 (lsc_b hW _ _) | exact zr3 (sc_b hW _ _) | exact rkP_zr hW _ | exact scA_zr hW _ _ | exact zr3 (cW_b hW) | exact zr3 (wS_b hW) | exact zr3 (wS_b hWn) | (unfold zr at *; omega)) (by first | assumption | omega)) dL_reads__2 (by decide) rfl cw_RL_208 okX9_printerAfter rfl (Nat.le_of_ble_eq_true rfl) ⟨Nat.le_of_ble_eq_true rfl, Nat.le_of_ble_eq_true rfl, Nat.le_of_ble_eq_true rfl, Nat.le_of_ble_eq_true rfl⟩ (fun τ2 hr2 => ?_)
  have hz2 : zOK τ2 := hr2.1
  refine zy_istoreN [zf 9 0, zi x, zi ((wP D (Hd D x (-1)) : Nat) : Int), zu, zu, zu, zu, zu] dL_reads__5 rfl (Nat.le_of_ble_eq_true rfl) (Nat.le_of_ble_eq_true rfl) rfl rfl ?_
  refine zx_aloadN dL_reads__6 rfl rfl ?_
  refine zx_iloadN dL_reads__7 rfl rfl ?_
  refine zy_cvR [zi x] (fX9_yearAfter  hfl hz2 hr2.2.2 hW hP1 (by first | exact hz2 _ _ | assumption | exact zr_b _ | exact zcmp_r _ _ | exact hzD _ _ | exact zr3 (tS_b hW _) | exact zr3 (lsc_b hW _ _) | exact zr3 (sc_b hW _ _) | exact rkP_zr hW _ | exact scA_zr hW _ _ | exact zr3 (cW_b hW) | exact zr3 (wS_b hW) | exact zr3 (wS_b hWn) | (unfold zr at *; omega)) (by first | assumption | omega)) dL_reads__8 (by decide) rfl cw_RL_211 okX9_yearAfter rfl (Nat.le_of_ble_eq_true rfl) ⟨Nat.le_of_ble_eq_true rfl, Nat.le_of_ble_eq_true rfl, Nat.le_of_ble_eq_true rfl, Nat.le_of_ble_eq_true rfl⟩ (fun τ8 hr8 => ?_)
  have hz8 : zOK τ8 := hr8.1
  refine zy_istoreN [zf 9 0, zi x, zi ((wP D (Hd D x (-1)) : Nat) : Int), zi (wY D (Hd D x (-1))), zu, zu, zu, zu] dL_reads__11 rfl (Nat.le_of_ble_eq_true rfl) (Nat.le_of_ble_eq_true rfl) rfl rfl ?_
  refine zx_aloadN dL_reads__12 rfl rfl ?_
  refine zy_cvR [] (fX9_cluesUntilChange  hfl hz8 hr8.2.2 hW hP1) dL_reads__13 (by decide) rfl cw_RL_228 okX9_cluesUntilChange rfl (Nat.le_of_ble_eq_true rfl) ⟨Nat.le_of_ble_eq_true rfl, Nat.le_of_ble_eq_true rfl, Nat.le_of_ble_eq_true rfl, Nat.le_of_ble_eq_true rfl⟩ (fun τ13 hr13 => ?_)
  have hz13 : zOK τ13 := hr13.1
  refine zy_istore [zf 9 0, zi x, zi ((wP D (Hd D x (-1)) : Nat) : Int), zi (wY D (Hd D x (-1))), zi (cuc D), zu, zu, zu] dL_reads__16 (Nat.le_of_ble_eq_true rfl) (Nat.le_of_ble_eq_true rfl) rfl rfl ?_
  refine zx_aloadN dL_reads__18 rfl rfl ?_
  refine zy_cvR [] (fX9_verdictPrinter  hfl hz13 hr13.2.2 hW hP1) dL_reads__19 (by decide) rfl cw_RL_174 okX9_verdictPrinter rfl (Nat.le_of_ble_eq_true rfl) ⟨Nat.le_of_ble_eq_true rfl, Nat.le_of_ble_eq_true rfl, Nat.le_of_ble_eq_true rfl, Nat.le_of_ble_eq_true rfl⟩ (fun τ19 hr19 => ?_)
  have hz19 : zOK τ19 := hr19.1
  refine zy_istore [zf 9 0, zi x, zi ((wP D (Hd D x (-1)) : Nat) : Int), zi (wY D (Hd D x (-1))), zi (cuc D), zi ((wP D (Ht D) : Nat) : Int), zu, zu] dL_reads__22 (Nat.le_of_ble_eq_true rfl) (Nat.le_of_ble_eq_true rfl) rfl rfl ?_
  refine zx_aloadN dL_reads__24 rfl rfl ?_
  refine zy_cv [] (fX9_nextClue  hfl hz19 hr19.2.2 hW) dL_reads__25 (by decide) rfl cw_RL_198 okX9_nextClue rfl (Nat.le_of_ble_eq_true rfl) ⟨Nat.le_of_ble_eq_true rfl, Nat.le_of_ble_eq_true rfl, Nat.le_of_ble_eq_true rfl, Nat.le_of_ble_eq_true rfl⟩ ?_
  refine zy_istore [zf 9 0, zi x, zi ((wP D (Hd D x (-1)) : Nat) : Int), zi (wY D (Hd D x (-1))), zi (cuc D), zi ((wP D (Ht D) : Nat) : Int), zi (nxU D), zu] dL_reads__28 (Nat.le_of_ble_eq_true rfl) (Nat.le_of_ble_eq_true rfl) rfl rfl ?_
  refine zx_aloadN dL_reads__30 rfl rfl ?_
  refine zx_iconst dL_reads__31 ?_
  refine zx_iloadN dL_reads__32 rfl rfl ?_
  refine zx_iconst dL_reads__33 ?_
  refine zx_iconst dL_reads__34 ?_
  refine zy_csHR [zf 9 0, zi 5, zi x, zi 0, zi 0] (sL_does_read  hfl hz19 hr19.2.2 hW (HN_j hN (zJ (zJ (zJ (zJ (zSame_rf _ _) hr2.2.1) hr8.2.1) hr13.2.1) hr19.2.1)) (HBA_j hA (zJ (zJ (zJ (zJ (zSame_rf _ _) hr2.2.1) hr8.2.1) hr13.2.1) hr19.2.1)) (by first | assumption | omega)) dL_reads__35 cw_RL_231 okL_does rfl (Nat.le_of_ble_eq_true rfl) ⟨Nat.le_of_ble_eq_true rfl, Nat.le_of_ble_eq_true rfl, Nat.le_of_ble_eq_true rfl, Nat.le_of_ble_eq_true rfl⟩ (fun τ35 hr35 => ?_)
  have hz35 : zOK τ35 := hr35.1
  have hl := hr35.2.2.2.2.2.2
  have hWn := hr35.2.2.2.2.2.1
  have hzDn := hzDof (rfl : bK τ35 = bK τ35) hz35
  have hP1n : 1 ≤ (bK τ35) 1 0 := by rw [show (bK τ35) 1 0 = D 1 0 from hl.1.1]; exact hP1
  have e12 : (bK τ35) 12 0 = D 12 0 := hl.1.2.2.2
  have e1 : (bK τ35) 1 0 = D 1 0 := hl.1.1
  have eP : wP (bK τ35) (Ht (bK τ35)) = wP D (Hd D x (-1)) := (wP_t (lEq_sy hl) hWn).symm.trans (wP_rd D x)
  have eY : wY (bK τ35) (Ht (bK τ35)) = wY D (Hd D x (-1)) := (wY_t (lEq_sy hl) hWn hP1n).symm.trans (wY_rd D x)
  refine zy_istore [zf 9 0, zi x, zi ((wP D (Hd D x (-1)) : Nat) : Int), zi (wY D (Hd D x (-1))), zi (cuc D), zi ((wP D (Ht D) : Nat) : Int), zi (nxU D), zi (min x (U D (D 12 0).toNat))] dL_reads__38 (Nat.le_of_ble_eq_true rfl) (Nat.le_of_ble_eq_true rfl) rfl rfl ?_
  refine zx_iload dL_reads__40 rfl ?_
  refine zx_iloadN dL_reads__42 rfl rfl ?_
  refine zx_icmp_gt (tgt := 99) (by first | exact hz35 _ _ | assumption | exact zr_b _ | exact zcmp_r _ _ | exact hzD _ _ | exact zr3 (tS_b hW _) | exact zr3 (lsc_b hW _ _) | exact zr3 (sc_b hW _ _) | exact rkP_zr hW _ | exact scA_zr hW _ _ | exact zr3 (cW_b hW) | exact zr3 (wS_b hW) | exact zr3 (wS_b hWn) | (unfold zr at *; omega)) (by first | exact hz35 _ _ | assumption | exact zr_b _ | exact zcmp_r _ _ | exact hzD _ _ | exact zr3 (tS_b hW _) | exact zr3 (lsc_b hW _ _) | exact zr3 (sc_b hW _ _) | exact rkP_zr hW _ | exact scA_zr hW _ _ | exact zr3 (cW_b hW) | exact zr3 (wS_b hW) | exact zr3 (wS_b hWn) | (unfold zr at *; omega)) dL_reads__43 (by decide) (fun h43 => ?_) (fun h43 => ?_)
  · exfalso
    first
    | exact h88 rfl
    | exact h96 rfl
    | omega
    | (have q := (hnx.2 (by omega))
       have e := hl.2.2.2.2 (nxU D).toNat (by show (((nxU D).toNat : Nat) : Int) < D 12 0; omega) 17 (by omega) (by omega)
       rw [h80, rdB_s] at e
       exact zb_0.mp e.symm (q.2 x hx.1))
  · refine zx_iload dL_reads__46 rfl ?_
    refine zx_if_lt (tgt := 55) (by first | exact hz35 _ _ | assumption | exact zr_b _ | exact zcmp_r _ _ | exact hzD _ _ | exact zr3 (tS_b hW _) | exact zr3 (lsc_b hW _ _) | exact zr3 (sc_b hW _ _) | exact rkP_zr hW _ | exact scA_zr hW _ _ | exact zr3 (cW_b hW) | exact zr3 (wS_b hW) | exact zr3 (wS_b hWn) | (unfold zr at *; omega)) dL_reads__48 (by decide) (fun h48 => ?_) (fun h48 => ?_)
    · refine zx_iconst dL_reads__55 ?_
      refine zx_iload dL_reads__56 rfl ?_
      refine zx_if_le (tgt := 65) (by first | exact hz35 _ _ | assumption | exact zr_b _ | exact zcmp_r _ _ | exact hzD _ _ | exact zr3 (tS_b hW _) | exact zr3 (lsc_b hW _ _) | exact zr3 (sc_b hW _ _) | exact rkP_zr hW _ | exact scA_zr hW _ _ | exact zr3 (cW_b hW) | exact zr3 (wS_b hW) | exact zr3 (wS_b hWn) | (unfold zr at *; omega)) dL_reads__58 (by decide) (fun h58 => ?_) (fun h58 => ?_)
      · refine zx_iconst dL_reads__65 ?_
        refine zx_icmp_ne (tgt := 99) (by first | exact hz35 _ _ | assumption | exact zr_b _ | exact zcmp_r _ _ | exact hzD _ _ | exact zr3 (tS_b hW _) | exact zr3 (lsc_b hW _ _) | exact zr3 (sc_b hW _ _) | exact rkP_zr hW _ | exact scA_zr hW _ _ | exact zr3 (cW_b hW) | exact zr3 (wS_b hW) | exact zr3 (wS_b hWn) | (unfold zr at *; omega)) (by first | exact hz35 _ _ | assumption | exact zr_b _ | exact zcmp_r _ _ | exact hzD _ _ | exact zr3 (tS_b hW _) | exact zr3 (lsc_b hW _ _) | exact zr3 (sc_b hW _ _) | exact rkP_zr hW _ | exact scA_zr hW _ _ | exact zr3 (cW_b hW) | exact zr3 (wS_b hW) | exact zr3 (wS_b hWn) | (unfold zr at *; omega)) dL_reads__66 (by decide) (fun h66 => ?_) (fun h66 => ?_)
        · exact absurd h66 (by decide)
        · refine zx_iload dL_reads__69 rfl ?_
          refine zx_if_lt (tgt := 83) (by first | exact hz35 _ _ | assumption | exact zr_b _ | exact zcmp_r _ _ | exact hzD _ _ | exact zr3 (tS_b hW _) | exact zr3 (lsc_b hW _ _) | exact zr3 (sc_b hW _ _) | exact rkP_zr hW _ | exact scA_zr hW _ _ | exact zr3 (cW_b hW) | exact zr3 (wS_b hW) | exact zr3 (wS_b hWn) | (unfold zr at *; omega)) dL_reads__71 (by decide) (fun h71 => ?_) (fun h71 => ?_)
          · refine zx_aloadN dL_reads__83 rfl rfl ?_
            refine zy_cvR [] (fX9_verdictPrinter  hfl hz35 rfl hr35.2.2.2.2.2.1 hP1n) dL_reads__84 (by decide) rfl cw_RL_174 okX9_verdictPrinter rfl (Nat.le_of_ble_eq_true rfl) ⟨Nat.le_of_ble_eq_true rfl, Nat.le_of_ble_eq_true rfl, Nat.le_of_ble_eq_true rfl, Nat.le_of_ble_eq_true rfl⟩ (fun τ84 hr84 => ?_)
            have hz84 : zOK τ84 := hr84.1
            refine zy_top (b := ((wP D (Hd D x (-1)) : Nat) : Int)) (by rw [eP]) ?_
            refine zx_iloadN dL_reads__87 rfl rfl ?_
            refine zx_icmp_ne (tgt := 99) (by first | exact hz84 _ _ | assumption | exact zr_b _ | exact zcmp_r _ _ | exact hzD _ _ | exact zr3 (tS_b hW _) | exact zr3 (lsc_b hW _ _) | exact zr3 (sc_b hW _ _) | exact rkP_zr hW _ | exact scA_zr hW _ _ | exact zr3 (cW_b hW) | exact zr3 (wS_b hW) | exact zr3 (wS_b hWn) | (unfold zr at *; omega)) (by first | exact hz84 _ _ | assumption | exact zr_b _ | exact zcmp_r _ _ | exact hzD _ _ | exact zr3 (tS_b hW _) | exact zr3 (lsc_b hW _ _) | exact zr3 (sc_b hW _ _) | exact rkP_zr hW _ | exact scA_zr hW _ _ | exact zr3 (cW_b hW) | exact zr3 (wS_b hW) | exact zr3 (wS_b hWn) | (unfold zr at *; omega)) dL_reads__88 (by decide) (fun h88 => ?_) (fun h88 => ?_)
            · exfalso
              first
              | exact h88 rfl
              | exact h96 rfl
              | omega
              | (have q := (hnx.2 (by omega))
                 have e := hl.2.2.2.2 (nxU D).toNat (by show (((nxU D).toNat : Nat) : Int) < D 12 0; omega) 17 (by omega) (by omega)
                 rw [h80, rdB_s] at e
                 exact zb_0.mp e.symm (q.2 x hx.1))
            · refine zx_aloadN dL_reads__91 rfl rfl ?_
              refine zy_cvR [] (fX9_verdictYear  hfl hz84 hr84.2.2 hr35.2.2.2.2.2.1 hP1n) dL_reads__92 (by decide) rfl cw_RL_177 okX9_verdictYear rfl (Nat.le_of_ble_eq_true rfl) ⟨Nat.le_of_ble_eq_true rfl, Nat.le_of_ble_eq_true rfl, Nat.le_of_ble_eq_true rfl, Nat.le_of_ble_eq_true rfl⟩ (fun τ92 hr92 => ?_)
              have hz92 : zOK τ92 := hr92.1
              refine zy_top (b := wY D (Hd D x (-1))) (eY) ?_
              refine zx_iloadN dL_reads__95 rfl rfl ?_
              refine zx_icmp_eq (tgt := 101) (by first | exact hz92 _ _ | assumption | exact zr_b _ | exact zcmp_r _ _ | exact hzD _ _ | exact zr3 (tS_b hW _) | exact zr3 (lsc_b hW _ _) | exact zr3 (sc_b hW _ _) | exact rkP_zr hW _ | exact scA_zr hW _ _ | exact zr3 (cW_b hW) | exact zr3 (wS_b hW) | exact zr3 (wS_b hWn) | (unfold zr at *; omega)) (by first | exact hz92 _ _ | assumption | exact zr_b _ | exact zcmp_r _ _ | exact hzD _ _ | exact zr3 (tS_b hW _) | exact zr3 (lsc_b hW _ _) | exact zr3 (sc_b hW _ _) | exact rkP_zr hW _ | exact scA_zr hW _ _ | exact zr3 (cW_b hW) | exact zr3 (wS_b hW) | exact zr3 (wS_b hWn) | (unfold zr at *; omega)) dL_reads__96 (by decide) (fun h96 => ?_) (fun h96 => ?_)
              · refine zx_iload dL_reads__101 rfl ?_
                refine zx_if_ge (tgt := 120) (by first | exact hz92 _ _ | assumption | exact zr_b _ | exact zcmp_r _ _ | exact hzD _ _ | exact zr3 (tS_b hW _) | exact zr3 (lsc_b hW _ _) | exact zr3 (sc_b hW _ _) | exact rkP_zr hW _ | exact scA_zr hW _ _ | exact zr3 (cW_b hW) | exact zr3 (wS_b hW) | exact zr3 (wS_b hWn) | (unfold zr at *; omega)) dL_reads__103 (by decide) (fun h103 => ?_) (fun h103 => ?_)
                · refine zx_iloadN dL_reads__120 rfl rfl ?_
                  refine zx_iload dL_reads__121 rfl ?_
                  refine zx_icmp_ge (tgt := 140) (by first | exact hz92 _ _ | assumption | exact zr_b _ | exact zcmp_r _ _ | exact hzD _ _ | exact zr3 (tS_b hW _) | exact zr3 (lsc_b hW _ _) | exact zr3 (sc_b hW _ _) | exact rkP_zr hW _ | exact scA_zr hW _ _ | exact zr3 (cW_b hW) | exact zr3 (wS_b hW) | exact zr3 (wS_b hWn) | (unfold zr at *; omega)) (by first | exact hz92 _ _ | assumption | exact zr_b _ | exact zcmp_r _ _ | exact hzD _ _ | exact zr3 (tS_b hW _) | exact zr3 (lsc_b hW _ _) | exact zr3 (sc_b hW _ _) | exact rkP_zr hW _ | exact scA_zr hW _ _ | exact zr3 (cW_b hW) | exact zr3 (wS_b hW) | exact zr3 (wS_b hWn) | (unfold zr at *; omega)) dL_reads__123 (by decide) (fun h123 => ?_) (fun h123 => ?_)
                  · refine zx_iloadN dL_reads__140 rfl rfl ?_
                    refine zx_iload dL_reads__141 rfl ?_
                    refine zx_icmp_gt (tgt := 152) (by first | exact hz92 _ _ | assumption | exact zr_b _ | exact zcmp_r _ _ | exact hzD _ _ | exact zr3 (tS_b hW _) | exact zr3 (lsc_b hW _ _) | exact zr3 (sc_b hW _ _) | exact rkP_zr hW _ | exact scA_zr hW _ _ | exact zr3 (cW_b hW) | exact zr3 (wS_b hW) | exact zr3 (wS_b hWn) | (unfold zr at *; omega)) (by first | exact hz92 _ _ | assumption | exact zr_b _ | exact zcmp_r _ _ | exact hzD _ _ | exact zr3 (tS_b hW _) | exact zr3 (lsc_b hW _ _) | exact zr3 (sc_b hW _ _) | exact rkP_zr hW _ | exact scA_zr hW _ _ | exact zr3 (cW_b hW) | exact zr3 (wS_b hW) | exact zr3 (wS_b hWn) | (unfold zr at *; omega)) dL_reads__143 (by decide) (fun h143 => ?_) (fun h143 => ?_)
                    · refine zx_iconst dL_reads__152 ?_
                      refine zx_goto (tgt := 157) dL_reads__153 (by decide) ?_
                      refine zx_iret rfl rfl dL_reads__157 ?_
                      rw [hQ]
                      refine ⟨congrArg (fun z : Int => (Sum.inl (some (zi z)) : Option zV ⊕ String)) ?_, ?_⟩
                      · first | rfl | assumption | omega
                      exact AP_d (zJ (zJ (zJ (zJ (zSame_rf _ _) hr2.2.1) hr8.2.1) hr13.2.1) hr19.2.1) hr35 (zJ (zJ (zSame_rf _ _) hr84.2.1) hr92.2.1) hz92
                    · refine zx_iloadN dL_reads__146 rfl rfl ?_
                      refine zx_iload dL_reads__147 rfl ?_
                      refine zx_icmp_eq (tgt := 156) (by first | exact hz92 _ _ | assumption | exact zr_b _ | exact zcmp_r _ _ | exact hzD _ _ | exact zr3 (tS_b hW _) | exact zr3 (lsc_b hW _ _) | exact zr3 (sc_b hW _ _) | exact rkP_zr hW _ | exact scA_zr hW _ _ | exact zr3 (cW_b hW) | exact zr3 (wS_b hW) | exact zr3 (wS_b hWn) | (unfold zr at *; omega)) (by first | exact hz92 _ _ | assumption | exact zr_b _ | exact zcmp_r _ _ | exact hzD _ _ | exact zr3 (tS_b hW _) | exact zr3 (lsc_b hW _ _) | exact zr3 (sc_b hW _ _) | exact rkP_zr hW _ | exact scA_zr hW _ _ | exact zr3 (cW_b hW) | exact zr3 (wS_b hW) | exact zr3 (wS_b hWn) | (unfold zr at *; omega)) dL_reads__149 (by decide) (fun h149 => ?_) (fun h149 => ?_)
                      · exfalso; exact hcs.2.2 (by omega) (by omega) (by omega)
                      · refine zx_iconst dL_reads__152 ?_
                        refine zx_goto (tgt := 157) dL_reads__153 (by decide) ?_
                        refine zx_iret rfl rfl dL_reads__157 ?_
                        rw [hQ]
                        refine ⟨congrArg (fun z : Int => (Sum.inl (some (zi z)) : Option zV ⊕ String)) ?_, ?_⟩
                        · first | rfl | assumption | omega
                        exact AP_d (zJ (zJ (zJ (zJ (zSame_rf _ _) hr2.2.1) hr8.2.1) hr13.2.1) hr19.2.1) hr35 (zJ (zJ (zSame_rf _ _) hr84.2.1) hr92.2.1) hz92
                  · refine zx_iloadN dL_reads__126 rfl rfl ?_
                    refine zx_iload dL_reads__127 rfl ?_
                    refine zx_icmp_ne (tgt := 136) (by first | exact hz92 _ _ | assumption | exact zr_b _ | exact zcmp_r _ _ | exact hzD _ _ | exact zr3 (tS_b hW _) | exact zr3 (lsc_b hW _ _) | exact zr3 (sc_b hW _ _) | exact rkP_zr hW _ | exact scA_zr hW _ _ | exact zr3 (cW_b hW) | exact zr3 (wS_b hW) | exact zr3 (wS_b hWn) | (unfold zr at *; omega)) (by first | exact hz92 _ _ | assumption | exact zr_b _ | exact zcmp_r _ _ | exact hzD _ _ | exact zr3 (tS_b hW _) | exact zr3 (lsc_b hW _ _) | exact zr3 (sc_b hW _ _) | exact rkP_zr hW _ | exact scA_zr hW _ _ | exact zr3 (cW_b hW) | exact zr3 (wS_b hW) | exact zr3 (wS_b hWn) | (unfold zr at *; omega)) dL_reads__129 (by decide) (fun h129 => ?_) (fun h129 => ?_)
                    · exfalso; exact h129 (by rw [hcs.2.1 (by omega) h123])
                    · refine zx_iconst dL_reads__132 ?_
                      refine zx_goto (tgt := 157) dL_reads__133 (by decide) ?_
                      refine zx_iret rfl rfl dL_reads__157 ?_
                      rw [hQ]
                      refine ⟨congrArg (fun z : Int => (Sum.inl (some (zi z)) : Option zV ⊕ String)) ?_, ?_⟩
                      · first | rfl | assumption | omega
                      exact AP_d (zJ (zJ (zJ (zJ (zSame_rf _ _) hr2.2.1) hr8.2.1) hr13.2.1) hr19.2.1) hr35 (zJ (zJ (zSame_rf _ _) hr84.2.1) hr92.2.1) hz92
                · refine zx_iloadN dL_reads__106 rfl rfl ?_
                  refine zx_iload dL_reads__107 rfl ?_
                  refine zx_icmp_ne (tgt := 116) (by first | exact hz92 _ _ | assumption | exact zr_b _ | exact zcmp_r _ _ | exact hzD _ _ | exact zr3 (tS_b hW _) | exact zr3 (lsc_b hW _ _) | exact zr3 (sc_b hW _ _) | exact rkP_zr hW _ | exact scA_zr hW _ _ | exact zr3 (cW_b hW) | exact zr3 (wS_b hW) | exact zr3 (wS_b hWn) | (unfold zr at *; omega)) (by first | exact hz92 _ _ | assumption | exact zr_b _ | exact zcmp_r _ _ | exact hzD _ _ | exact zr3 (tS_b hW _) | exact zr3 (lsc_b hW _ _) | exact zr3 (sc_b hW _ _) | exact rkP_zr hW _ | exact scA_zr hW _ _ | exact zr3 (cW_b hW) | exact zr3 (wS_b hW) | exact zr3 (wS_b hWn) | (unfold zr at *; omega)) dL_reads__109 (by decide) (fun h109 => ?_) (fun h109 => ?_)
                  · exfalso; exact h109 (by rw [hcs.1 h103])
                  · refine zx_iconst dL_reads__112 ?_
                    refine zx_goto (tgt := 157) dL_reads__113 (by decide) ?_
                    refine zx_iret rfl rfl dL_reads__157 ?_
                    rw [hQ]
                    refine ⟨congrArg (fun z : Int => (Sum.inl (some (zi z)) : Option zV ⊕ String)) ?_, ?_⟩
                    · first | rfl | assumption | omega
                    exact AP_d (zJ (zJ (zJ (zJ (zSame_rf _ _) hr2.2.1) hr8.2.1) hr13.2.1) hr19.2.1) hr35 (zJ (zJ (zSame_rf _ _) hr84.2.1) hr92.2.1) hz92
              · exfalso
                first
                | exact h88 rfl
                | exact h96 rfl
                | omega
                | (have q := (hnx.2 (by omega))
                   have e := hl.2.2.2.2 (nxU D).toNat (by show (((nxU D).toNat : Nat) : Int) < D 12 0; omega) 17 (by omega) (by omega)
                   rw [h80, rdB_s] at e
                   exact zb_0.mp e.symm (q.2 x hx.1))
          · refine zx_aloadN dL_reads__74 rfl rfl ?_
            refine zx_iload dL_reads__75 rfl ?_
            refine zy_cv [zi (nxU D)] (fX9_isRead  hfl hz35 rfl hr35.2.2.2.2.2.1 (by first | exact hz35 _ _ | assumption | exact zr_b _ | exact zcmp_r _ _ | exact hzD _ _ | exact zr3 (tS_b hW _) | exact zr3 (lsc_b hW _ _) | exact zr3 (sc_b hW _ _) | exact rkP_zr hW _ | exact scA_zr hW _ _ | exact zr3 (cW_b hW) | exact zr3 (wS_b hW) | exact zr3 (wS_b hWn) | (unfold zr at *; omega)) (by first | assumption | omega)) dL_reads__77 (by decide) rfl cw_RL_122 okX9_isRead rfl (Nat.le_of_ble_eq_true rfl) ⟨Nat.le_of_ble_eq_true rfl, Nat.le_of_ble_eq_true rfl, Nat.le_of_ble_eq_true rfl, Nat.le_of_ble_eq_true rfl⟩ ?_
            refine zx_if_eq (tgt := 99) (by first | exact hz35 _ _ | assumption | exact zr_b _ | exact zcmp_r _ _ | exact hzD _ _ | exact zr3 (tS_b hW _) | exact zr3 (lsc_b hW _ _) | exact zr3 (sc_b hW _ _) | exact rkP_zr hW _ | exact scA_zr hW _ _ | exact zr3 (cW_b hW) | exact zr3 (wS_b hW) | exact zr3 (wS_b hWn) | (unfold zr at *; omega)) dL_reads__80 (by decide) (fun h80 => ?_) (fun h80 => ?_)
            · exfalso
              first
              | exact h88 rfl
              | exact h96 rfl
              | omega
              | (have q := (hnx.2 (by omega))
                 have e := hl.2.2.2.2 (nxU D).toNat (by show (((nxU D).toNat : Nat) : Int) < D 12 0; omega) 17 (by omega) (by omega)
                 rw [h80, rdB_s] at e
                 exact zb_0.mp e.symm (q.2 x hx.1))
            · refine zx_aloadN dL_reads__83 rfl rfl ?_
              refine zy_cvR [] (fX9_verdictPrinter  hfl hz35 rfl hr35.2.2.2.2.2.1 hP1n) dL_reads__84 (by decide) rfl cw_RL_174 okX9_verdictPrinter rfl (Nat.le_of_ble_eq_true rfl) ⟨Nat.le_of_ble_eq_true rfl, Nat.le_of_ble_eq_true rfl, Nat.le_of_ble_eq_true rfl, Nat.le_of_ble_eq_true rfl⟩ (fun τ84 hr84 => ?_)
              have hz84 : zOK τ84 := hr84.1
              refine zy_top (b := ((wP D (Hd D x (-1)) : Nat) : Int)) (by rw [eP]) ?_
              refine zx_iloadN dL_reads__87 rfl rfl ?_
              refine zx_icmp_ne (tgt := 99) (by first | exact hz84 _ _ | assumption | exact zr_b _ | exact zcmp_r _ _ | exact hzD _ _ | exact zr3 (tS_b hW _) | exact zr3 (lsc_b hW _ _) | exact zr3 (sc_b hW _ _) | exact rkP_zr hW _ | exact scA_zr hW _ _ | exact zr3 (cW_b hW) | exact zr3 (wS_b hW) | exact zr3 (wS_b hWn) | (unfold zr at *; omega)) (by first | exact hz84 _ _ | assumption | exact zr_b _ | exact zcmp_r _ _ | exact hzD _ _ | exact zr3 (tS_b hW _) | exact zr3 (lsc_b hW _ _) | exact zr3 (sc_b hW _ _) | exact rkP_zr hW _ | exact scA_zr hW _ _ | exact zr3 (cW_b hW) | exact zr3 (wS_b hW) | exact zr3 (wS_b hWn) | (unfold zr at *; omega)) dL_reads__88 (by decide) (fun h88 => ?_) (fun h88 => ?_)
              · exfalso
                first
                | exact h88 rfl
                | exact h96 rfl
                | omega
                | (have q := (hnx.2 (by omega))
                   have e := hl.2.2.2.2 (nxU D).toNat (by show (((nxU D).toNat : Nat) : Int) < D 12 0; omega) 17 (by omega) (by omega)
                   rw [h80, rdB_s] at e
                   exact zb_0.mp e.symm (q.2 x hx.1))
              · refine zx_aloadN dL_reads__91 rfl rfl ?_
                refine zy_cvR [] (fX9_verdictYear  hfl hz84 hr84.2.2 hr35.2.2.2.2.2.1 hP1n) dL_reads__92 (by decide) rfl cw_RL_177 okX9_verdictYear rfl (Nat.le_of_ble_eq_true rfl) ⟨Nat.le_of_ble_eq_true rfl, Nat.le_of_ble_eq_true rfl, Nat.le_of_ble_eq_true rfl, Nat.le_of_ble_eq_true rfl⟩ (fun τ92 hr92 => ?_)
                have hz92 : zOK τ92 := hr92.1
                refine zy_top (b := wY D (Hd D x (-1))) (eY) ?_
                refine zx_iloadN dL_reads__95 rfl rfl ?_
                refine zx_icmp_eq (tgt := 101) (by first | exact hz92 _ _ | assumption | exact zr_b _ | exact zcmp_r _ _ | exact hzD _ _ | exact zr3 (tS_b hW _) | exact zr3 (lsc_b hW _ _) | exact zr3 (sc_b hW _ _) | exact rkP_zr hW _ | exact scA_zr hW _ _ | exact zr3 (cW_b hW) | exact zr3 (wS_b hW) | exact zr3 (wS_b hWn) | (unfold zr at *; omega)) (by first | exact hz92 _ _ | assumption | exact zr_b _ | exact zcmp_r _ _ | exact hzD _ _ | exact zr3 (tS_b hW _) | exact zr3 (lsc_b hW _ _) | exact zr3 (sc_b hW _ _) | exact rkP_zr hW _ | exact scA_zr hW _ _ | exact zr3 (cW_b hW) | exact zr3 (wS_b hW) | exact zr3 (wS_b hWn) | (unfold zr at *; omega)) dL_reads__96 (by decide) (fun h96 => ?_) (fun h96 => ?_)
                · refine zx_iload dL_reads__101 rfl ?_
                  refine zx_if_ge (tgt := 120) (by first | exact hz92 _ _ | assumption | exact zr_b _ | exact zcmp_r _ _ | exact hzD _ _ | exact zr3 (tS_b hW _) | exact zr3 (lsc_b hW _ _) | exact zr3 (sc_b hW _ _) | exact rkP_zr hW _ | exact scA_zr hW _ _ | exact zr3 (cW_b hW) | exact zr3 (wS_b hW) | exact zr3 (wS_b hWn) | (unfold zr at *; omega)) dL_reads__103 (by decide) (fun h103 => ?_) (fun h103 => ?_)
                  · refine zx_iloadN dL_reads__120 rfl rfl ?_
                    refine zx_iload dL_reads__121 rfl ?_
                    refine zx_icmp_ge (tgt := 140) (by first | exact hz92 _ _ | assumption | exact zr_b _ | exact zcmp_r _ _ | exact hzD _ _ | exact zr3 (tS_b hW _) | exact zr3 (lsc_b hW _ _) | exact zr3 (sc_b hW _ _) | exact rkP_zr hW _ | exact scA_zr hW _ _ | exact zr3 (cW_b hW) | exact zr3 (wS_b hW) | exact zr3 (wS_b hWn) | (unfold zr at *; omega)) (by first | exact hz92 _ _ | assumption | exact zr_b _ | exact zcmp_r _ _ | exact hzD _ _ | exact zr3 (tS_b hW _) | exact zr3 (lsc_b hW _ _) | exact zr3 (sc_b hW _ _) | exact rkP_zr hW _ | exact scA_zr hW _ _ | exact zr3 (cW_b hW) | exact zr3 (wS_b hW) | exact zr3 (wS_b hWn) | (unfold zr at *; omega)) dL_reads__123 (by decide) (fun h123 => ?_) (fun h123 => ?_)
                    · refine zx_iloadN dL_reads__140 rfl rfl ?_
                      refine zx_iload dL_reads__141 rfl ?_
                      refine zx_icmp_gt (tgt := 152) (by first | exact hz92 _ _ | assumption | exact zr_b _ | exact zcmp_r _ _ | exact hzD _ _ | exact zr3 (tS_b hW _) | exact zr3 (lsc_b hW _ _) | exact zr3 (sc_b hW _ _) | exact rkP_zr hW _ | exact scA_zr hW _ _ | exact zr3 (cW_b hW) | exact zr3 (wS_b hW) | exact zr3 (wS_b hWn) | (unfold zr at *; omega)) (by first | exact hz92 _ _ | assumption | exact zr_b _ | exact zcmp_r _ _ | exact hzD _ _ | exact zr3 (tS_b hW _) | exact zr3 (lsc_b hW _ _) | exact zr3 (sc_b hW _ _) | exact rkP_zr hW _ | exact scA_zr hW _ _ | exact zr3 (cW_b hW) | exact zr3 (wS_b hW) | exact zr3 (wS_b hWn) | (unfold zr at *; omega)) dL_reads__143 (by decide) (fun h143 => ?_) (fun h143 => ?_)
                      · refine zx_iconst dL_reads__152 ?_
                        refine zx_goto (tgt := 157) dL_reads__153 (by decide) ?_
                        refine zx_iret rfl rfl dL_reads__157 ?_
                        rw [hQ]
                        refine ⟨congrArg (fun z : Int => (Sum.inl (some (zi z)) : Option zV ⊕ String)) ?_, ?_⟩
                        · first | rfl | assumption | omega
                        exact AP_d (zJ (zJ (zJ (zJ (zSame_rf _ _) hr2.2.1) hr8.2.1) hr13.2.1) hr19.2.1) hr35 (zJ (zJ (zSame_rf _ _) hr84.2.1) hr92.2.1) hz92
                      · refine zx_iloadN dL_reads__146 rfl rfl ?_
                        refine zx_iload dL_reads__147 rfl ?_
                        refine zx_icmp_eq (tgt := 156) (by first | exact hz92 _ _ | assumption | exact zr_b _ | exact zcmp_r _ _ | exact hzD _ _ | exact zr3 (tS_b hW _) | exact zr3 (lsc_b hW _ _) | exact zr3 (sc_b hW _ _) | exact rkP_zr hW _ | exact scA_zr hW _ _ | exact zr3 (cW_b hW) | exact zr3 (wS_b hW) | exact zr3 (wS_b hWn) | (unfold zr at *; omega)) (by first | exact hz92 _ _ | assumption | exact zr_b _ | exact zcmp_r _ _ | exact hzD _ _ | exact zr3 (tS_b hW _) | exact zr3 (lsc_b hW _ _) | exact zr3 (sc_b hW _ _) | exact rkP_zr hW _ | exact scA_zr hW _ _ | exact zr3 (cW_b hW) | exact zr3 (wS_b hW) | exact zr3 (wS_b hWn) | (unfold zr at *; omega)) dL_reads__149 (by decide) (fun h149 => ?_) (fun h149 => ?_)
                        · exfalso; exact hcs.2.2 (by omega) (by omega) (by omega)
                        · refine zx_iconst dL_reads__152 ?_
                          refine zx_goto (tgt := 157) dL_reads__153 (by decide) ?_
                          refine zx_iret rfl rfl dL_reads__157 ?_
                          rw [hQ]
                          refine ⟨congrArg (fun z : Int => (Sum.inl (some (zi z)) : Option zV ⊕ String)) ?_, ?_⟩
                          · first | rfl | assumption | omega
                          exact AP_d (zJ (zJ (zJ (zJ (zSame_rf _ _) hr2.2.1) hr8.2.1) hr13.2.1) hr19.2.1) hr35 (zJ (zJ (zSame_rf _ _) hr84.2.1) hr92.2.1) hz92
                    · refine zx_iloadN dL_reads__126 rfl rfl ?_
                      refine zx_iload dL_reads__127 rfl ?_
                      refine zx_icmp_ne (tgt := 136) (by first | exact hz92 _ _ | assumption | exact zr_b _ | exact zcmp_r _ _ | exact hzD _ _ | exact zr3 (tS_b hW _) | exact zr3 (lsc_b hW _ _) | exact zr3 (sc_b hW _ _) | exact rkP_zr hW _ | exact scA_zr hW _ _ | exact zr3 (cW_b hW) | exact zr3 (wS_b hW) | exact zr3 (wS_b hWn) | (unfold zr at *; omega)) (by first | exact hz92 _ _ | assumption | exact zr_b _ | exact zcmp_r _ _ | exact hzD _ _ | exact zr3 (tS_b hW _) | exact zr3 (lsc_b hW _ _) | exact zr3 (sc_b hW _ _) | exact rkP_zr hW _ | exact scA_zr hW _ _ | exact zr3 (cW_b hW) | exact zr3 (wS_b hW) | exact zr3 (wS_b hWn) | (unfold zr at *; omega)) dL_reads__129 (by decide) (fun h129 => ?_) (fun h129 => ?_)
                      · exfalso; exact h129 (by rw [hcs.2.1 (by omega) h123])
                      · refine zx_iconst dL_reads__132 ?_
                        refine zx_goto (tgt := 157) dL_reads__133 (by decide) ?_
                        refine zx_iret rfl rfl dL_reads__157 ?_
                        rw [hQ]
                        refine ⟨congrArg (fun z : Int => (Sum.inl (some (zi z)) : Option zV ⊕ String)) ?_, ?_⟩
                        · first | rfl | assumption | omega
                        exact AP_d (zJ (zJ (zJ (zJ (zSame_rf _ _) hr2.2.1) hr8.2.1) hr13.2.1) hr19.2.1) hr35 (zJ (zJ (zSame_rf _ _) hr84.2.1) hr92.2.1) hz92
                  · refine zx_iloadN dL_reads__106 rfl rfl ?_
                    refine zx_iload dL_reads__107 rfl ?_
                    refine zx_icmp_ne (tgt := 116) (by first | exact hz92 _ _ | assumption | exact zr_b _ | exact zcmp_r _ _ | exact hzD _ _ | exact zr3 (tS_b hW _) | exact zr3 (lsc_b hW _ _) | exact zr3 (sc_b hW _ _) | exact rkP_zr hW _ | exact scA_zr hW _ _ | exact zr3 (cW_b hW) | exact zr3 (wS_b hW) | exact zr3 (wS_b hWn) | (unfold zr at *; omega)) (by first | exact hz92 _ _ | assumption | exact zr_b _ | exact zcmp_r _ _ | exact hzD _ _ | exact zr3 (tS_b hW _) | exact zr3 (lsc_b hW _ _) | exact zr3 (sc_b hW _ _) | exact rkP_zr hW _ | exact scA_zr hW _ _ | exact zr3 (cW_b hW) | exact zr3 (wS_b hW) | exact zr3 (wS_b hWn) | (unfold zr at *; omega)) dL_reads__109 (by decide) (fun h109 => ?_) (fun h109 => ?_)
                    · exfalso; exact h109 (by rw [hcs.1 h103])
                    · refine zx_iconst dL_reads__112 ?_
                      refine zx_goto (tgt := 157) dL_reads__113 (by decide) ?_
                      refine zx_iret rfl rfl dL_reads__157 ?_
                      rw [hQ]
                      refine ⟨congrArg (fun z : Int => (Sum.inl (some (zi z)) : Option zV ⊕ String)) ?_, ?_⟩
                      · first | rfl | assumption | omega
                      exact AP_d (zJ (zJ (zJ (zJ (zSame_rf _ _) hr2.2.1) hr8.2.1) hr13.2.1) hr19.2.1) hr35 (zJ (zJ (zSame_rf _ _) hr84.2.1) hr92.2.1) hz92
                · exfalso
                  first
                  | exact h88 rfl
                  | exact h96 rfl
                  | omega
                  | (have q := (hnx.2 (by omega))
                     have e := hl.2.2.2.2 (nxU D).toNat (by show (((nxU D).toNat : Nat) : Int) < D 12 0; omega) 17 (by omega) (by omega)
                     rw [h80, rdB_s] at e
                     exact zb_0.mp e.symm (q.2 x hx.1))
      · refine zx_iconst dL_reads__61 ?_
        refine zx_goto (tgt := 66) dL_reads__62 (by decide) ?_
        refine zx_icmp_ne (tgt := 99) (by first | exact hz35 _ _ | assumption | exact zr_b _ | exact zcmp_r _ _ | exact hzD _ _ | exact zr3 (tS_b hW _) | exact zr3 (lsc_b hW _ _) | exact zr3 (sc_b hW _ _) | exact rkP_zr hW _ | exact scA_zr hW _ _ | exact zr3 (cW_b hW) | exact zr3 (wS_b hW) | exact zr3 (wS_b hWn) | (unfold zr at *; omega)) (by first | exact hz35 _ _ | assumption | exact zr_b _ | exact zcmp_r _ _ | exact hzD _ _ | exact zr3 (tS_b hW _) | exact zr3 (lsc_b hW _ _) | exact zr3 (sc_b hW _ _) | exact rkP_zr hW _ | exact scA_zr hW _ _ | exact zr3 (cW_b hW) | exact zr3 (wS_b hW) | exact zr3 (wS_b hWn) | (unfold zr at *; omega)) dL_reads__66 (by decide) (fun h66 => ?_) (fun h66 => ?_)
        · exfalso
          first
          | exact h88 rfl
          | exact h96 rfl
          | omega
          | (have q := (hnx.2 (by omega))
             have e := hl.2.2.2.2 (nxU D).toNat (by show (((nxU D).toNat : Nat) : Int) < D 12 0; omega) 17 (by omega) (by omega)
             rw [h80, rdB_s] at e
             exact zb_0.mp e.symm (q.2 x hx.1))
        · exact absurd h66 (by decide)
    · refine zx_iconst dL_reads__51 ?_
      refine zx_goto (tgt := 56) dL_reads__52 (by decide) ?_
      refine zx_iload dL_reads__56 rfl ?_
      refine zx_if_le (tgt := 65) (by first | exact hz35 _ _ | assumption | exact zr_b _ | exact zcmp_r _ _ | exact hzD _ _ | exact zr3 (tS_b hW _) | exact zr3 (lsc_b hW _ _) | exact zr3 (sc_b hW _ _) | exact rkP_zr hW _ | exact scA_zr hW _ _ | exact zr3 (cW_b hW) | exact zr3 (wS_b hW) | exact zr3 (wS_b hWn) | (unfold zr at *; omega)) dL_reads__58 (by decide) (fun h58 => ?_) (fun h58 => ?_)
      · refine zx_iconst dL_reads__65 ?_
        refine zx_icmp_ne (tgt := 99) (by first | exact hz35 _ _ | assumption | exact zr_b _ | exact zcmp_r _ _ | exact hzD _ _ | exact zr3 (tS_b hW _) | exact zr3 (lsc_b hW _ _) | exact zr3 (sc_b hW _ _) | exact rkP_zr hW _ | exact scA_zr hW _ _ | exact zr3 (cW_b hW) | exact zr3 (wS_b hW) | exact zr3 (wS_b hWn) | (unfold zr at *; omega)) (by first | exact hz35 _ _ | assumption | exact zr_b _ | exact zcmp_r _ _ | exact hzD _ _ | exact zr3 (tS_b hW _) | exact zr3 (lsc_b hW _ _) | exact zr3 (sc_b hW _ _) | exact rkP_zr hW _ | exact scA_zr hW _ _ | exact zr3 (cW_b hW) | exact zr3 (wS_b hW) | exact zr3 (wS_b hWn) | (unfold zr at *; omega)) dL_reads__66 (by decide) (fun h66 => ?_) (fun h66 => ?_)
        · exfalso
          first
          | exact h88 rfl
          | exact h96 rfl
          | omega
          | (have q := (hnx.2 (by omega))
             have e := hl.2.2.2.2 (nxU D).toNat (by show (((nxU D).toNat : Nat) : Int) < D 12 0; omega) 17 (by omega) (by omega)
             rw [h80, rdB_s] at e
             exact zb_0.mp e.symm (q.2 x hx.1))
        · exact absurd h66 (by decide)
      · refine zx_iconst dL_reads__61 ?_
        refine zx_goto (tgt := 66) dL_reads__62 (by decide) ?_
        refine zx_icmp_ne (tgt := 99) (by first | exact hz35 _ _ | assumption | exact zr_b _ | exact zcmp_r _ _ | exact hzD _ _ | exact zr3 (tS_b hW _) | exact zr3 (lsc_b hW _ _) | exact zr3 (sc_b hW _ _) | exact rkP_zr hW _ | exact scA_zr hW _ _ | exact zr3 (cW_b hW) | exact zr3 (wS_b hW) | exact zr3 (wS_b hWn) | (unfold zr at *; omega)) (by first | exact hz35 _ _ | assumption | exact zr_b _ | exact zcmp_r _ _ | exact hzD _ _ | exact zr3 (tS_b hW _) | exact zr3 (lsc_b hW _ _) | exact zr3 (sc_b hW _ _) | exact rkP_zr hW _ | exact scA_zr hW _ _ | exact zr3 (cW_b hW) | exact zr3 (wS_b hW) | exact zr3 (wS_b hWn) | (unfold zr at *; omega)) dL_reads__66 (by decide) (fun h66 => ?_) (fun h66 => ?_)
        · exact absurd h66 (by decide)
        · refine zx_iload dL_reads__69 rfl ?_
          refine zx_if_lt (tgt := 83) (by first | exact hz35 _ _ | assumption | exact zr_b _ | exact zcmp_r _ _ | exact hzD _ _ | exact zr3 (tS_b hW _) | exact zr3 (lsc_b hW _ _) | exact zr3 (sc_b hW _ _) | exact rkP_zr hW _ | exact scA_zr hW _ _ | exact zr3 (cW_b hW) | exact zr3 (wS_b hW) | exact zr3 (wS_b hWn) | (unfold zr at *; omega)) dL_reads__71 (by decide) (fun h71 => ?_) (fun h71 => ?_)
          · refine zx_aloadN dL_reads__83 rfl rfl ?_
            refine zy_cvR [] (fX9_verdictPrinter  hfl hz35 rfl hr35.2.2.2.2.2.1 hP1n) dL_reads__84 (by decide) rfl cw_RL_174 okX9_verdictPrinter rfl (Nat.le_of_ble_eq_true rfl) ⟨Nat.le_of_ble_eq_true rfl, Nat.le_of_ble_eq_true rfl, Nat.le_of_ble_eq_true rfl, Nat.le_of_ble_eq_true rfl⟩ (fun τ84 hr84 => ?_)
            have hz84 : zOK τ84 := hr84.1
            refine zy_top (b := ((wP D (Hd D x (-1)) : Nat) : Int)) (by rw [eP]) ?_
            refine zx_iloadN dL_reads__87 rfl rfl ?_
            refine zx_icmp_ne (tgt := 99) (by first | exact hz84 _ _ | assumption | exact zr_b _ | exact zcmp_r _ _ | exact hzD _ _ | exact zr3 (tS_b hW _) | exact zr3 (lsc_b hW _ _) | exact zr3 (sc_b hW _ _) | exact rkP_zr hW _ | exact scA_zr hW _ _ | exact zr3 (cW_b hW) | exact zr3 (wS_b hW) | exact zr3 (wS_b hWn) | (unfold zr at *; omega)) (by first | exact hz84 _ _ | assumption | exact zr_b _ | exact zcmp_r _ _ | exact hzD _ _ | exact zr3 (tS_b hW _) | exact zr3 (lsc_b hW _ _) | exact zr3 (sc_b hW _ _) | exact rkP_zr hW _ | exact scA_zr hW _ _ | exact zr3 (cW_b hW) | exact zr3 (wS_b hW) | exact zr3 (wS_b hWn) | (unfold zr at *; omega)) dL_reads__88 (by decide) (fun h88 => ?_) (fun h88 => ?_)
            · exfalso
              first
              | exact h88 rfl
              | exact h96 rfl
              | omega
              | (have q := (hnx.2 (by omega))
                 have e := hl.2.2.2.2 (nxU D).toNat (by show (((nxU D).toNat : Nat) : Int) < D 12 0; omega) 17 (by omega) (by omega)
                 rw [h80, rdB_s] at e
                 exact zb_0.mp e.symm (q.2 x hx.1))
            · refine zx_aloadN dL_reads__91 rfl rfl ?_
              refine zy_cvR [] (fX9_verdictYear  hfl hz84 hr84.2.2 hr35.2.2.2.2.2.1 hP1n) dL_reads__92 (by decide) rfl cw_RL_177 okX9_verdictYear rfl (Nat.le_of_ble_eq_true rfl) ⟨Nat.le_of_ble_eq_true rfl, Nat.le_of_ble_eq_true rfl, Nat.le_of_ble_eq_true rfl, Nat.le_of_ble_eq_true rfl⟩ (fun τ92 hr92 => ?_)
              have hz92 : zOK τ92 := hr92.1
              refine zy_top (b := wY D (Hd D x (-1))) (eY) ?_
              refine zx_iloadN dL_reads__95 rfl rfl ?_
              refine zx_icmp_eq (tgt := 101) (by first | exact hz92 _ _ | assumption | exact zr_b _ | exact zcmp_r _ _ | exact hzD _ _ | exact zr3 (tS_b hW _) | exact zr3 (lsc_b hW _ _) | exact zr3 (sc_b hW _ _) | exact rkP_zr hW _ | exact scA_zr hW _ _ | exact zr3 (cW_b hW) | exact zr3 (wS_b hW) | exact zr3 (wS_b hWn) | (unfold zr at *; omega)) (by first | exact hz92 _ _ | assumption | exact zr_b _ | exact zcmp_r _ _ | exact hzD _ _ | exact zr3 (tS_b hW _) | exact zr3 (lsc_b hW _ _) | exact zr3 (sc_b hW _ _) | exact rkP_zr hW _ | exact scA_zr hW _ _ | exact zr3 (cW_b hW) | exact zr3 (wS_b hW) | exact zr3 (wS_b hWn) | (unfold zr at *; omega)) dL_reads__96 (by decide) (fun h96 => ?_) (fun h96 => ?_)
              · refine zx_iload dL_reads__101 rfl ?_
                refine zx_if_ge (tgt := 120) (by first | exact hz92 _ _ | assumption | exact zr_b _ | exact zcmp_r _ _ | exact hzD _ _ | exact zr3 (tS_b hW _) | exact zr3 (lsc_b hW _ _) | exact zr3 (sc_b hW _ _) | exact rkP_zr hW _ | exact scA_zr hW _ _ | exact zr3 (cW_b hW) | exact zr3 (wS_b hW) | exact zr3 (wS_b hWn) | (unfold zr at *; omega)) dL_reads__103 (by decide) (fun h103 => ?_) (fun h103 => ?_)
                · refine zx_iloadN dL_reads__120 rfl rfl ?_
                  refine zx_iload dL_reads__121 rfl ?_
                  refine zx_icmp_ge (tgt := 140) (by first | exact hz92 _ _ | assumption | exact zr_b _ | exact zcmp_r _ _ | exact hzD _ _ | exact zr3 (tS_b hW _) | exact zr3 (lsc_b hW _ _) | exact zr3 (sc_b hW _ _) | exact rkP_zr hW _ | exact scA_zr hW _ _ | exact zr3 (cW_b hW) | exact zr3 (wS_b hW) | exact zr3 (wS_b hWn) | (unfold zr at *; omega)) (by first | exact hz92 _ _ | assumption | exact zr_b _ | exact zcmp_r _ _ | exact hzD _ _ | exact zr3 (tS_b hW _) | exact zr3 (lsc_b hW _ _) | exact zr3 (sc_b hW _ _) | exact rkP_zr hW _ | exact scA_zr hW _ _ | exact zr3 (cW_b hW) | exact zr3 (wS_b hW) | exact zr3 (wS_b hWn) | (unfold zr at *; omega)) dL_reads__123 (by decide) (fun h123 => ?_) (fun h123 => ?_)
                  · refine zx_iloadN dL_reads__140 rfl rfl ?_
                    refine zx_iload dL_reads__141 rfl ?_
                    refine zx_icmp_gt (tgt := 152) (by first | exact hz92 _ _ | assumption | exact zr_b _ | exact zcmp_r _ _ | exact hzD _ _ | exact zr3 (tS_b hW _) | exact zr3 (lsc_b hW _ _) | exact zr3 (sc_b hW _ _) | exact rkP_zr hW _ | exact scA_zr hW _ _ | exact zr3 (cW_b hW) | exact zr3 (wS_b hW) | exact zr3 (wS_b hWn) | (unfold zr at *; omega)) (by first | exact hz92 _ _ | assumption | exact zr_b _ | exact zcmp_r _ _ | exact hzD _ _ | exact zr3 (tS_b hW _) | exact zr3 (lsc_b hW _ _) | exact zr3 (sc_b hW _ _) | exact rkP_zr hW _ | exact scA_zr hW _ _ | exact zr3 (cW_b hW) | exact zr3 (wS_b hW) | exact zr3 (wS_b hWn) | (unfold zr at *; omega)) dL_reads__143 (by decide) (fun h143 => ?_) (fun h143 => ?_)
                    · refine zx_iconst dL_reads__152 ?_
                      refine zx_goto (tgt := 157) dL_reads__153 (by decide) ?_
                      refine zx_iret rfl rfl dL_reads__157 ?_
                      rw [hQ]
                      refine ⟨congrArg (fun z : Int => (Sum.inl (some (zi z)) : Option zV ⊕ String)) ?_, ?_⟩
                      · first | rfl | assumption | omega
                      exact AP_d (zJ (zJ (zJ (zJ (zSame_rf _ _) hr2.2.1) hr8.2.1) hr13.2.1) hr19.2.1) hr35 (zJ (zJ (zSame_rf _ _) hr84.2.1) hr92.2.1) hz92
                    · refine zx_iloadN dL_reads__146 rfl rfl ?_
                      refine zx_iload dL_reads__147 rfl ?_
                      refine zx_icmp_eq (tgt := 156) (by first | exact hz92 _ _ | assumption | exact zr_b _ | exact zcmp_r _ _ | exact hzD _ _ | exact zr3 (tS_b hW _) | exact zr3 (lsc_b hW _ _) | exact zr3 (sc_b hW _ _) | exact rkP_zr hW _ | exact scA_zr hW _ _ | exact zr3 (cW_b hW) | exact zr3 (wS_b hW) | exact zr3 (wS_b hWn) | (unfold zr at *; omega)) (by first | exact hz92 _ _ | assumption | exact zr_b _ | exact zcmp_r _ _ | exact hzD _ _ | exact zr3 (tS_b hW _) | exact zr3 (lsc_b hW _ _) | exact zr3 (sc_b hW _ _) | exact rkP_zr hW _ | exact scA_zr hW _ _ | exact zr3 (cW_b hW) | exact zr3 (wS_b hW) | exact zr3 (wS_b hWn) | (unfold zr at *; omega)) dL_reads__149 (by decide) (fun h149 => ?_) (fun h149 => ?_)
                      · exfalso; exact hcs.2.2 (by omega) (by omega) (by omega)
                      · refine zx_iconst dL_reads__152 ?_
                        refine zx_goto (tgt := 157) dL_reads__153 (by decide) ?_
                        refine zx_iret rfl rfl dL_reads__157 ?_
                        rw [hQ]
                        refine ⟨congrArg (fun z : Int => (Sum.inl (some (zi z)) : Option zV ⊕ String)) ?_, ?_⟩
                        · first | rfl | assumption | omega
                        exact AP_d (zJ (zJ (zJ (zJ (zSame_rf _ _) hr2.2.1) hr8.2.1) hr13.2.1) hr19.2.1) hr35 (zJ (zJ (zSame_rf _ _) hr84.2.1) hr92.2.1) hz92
                  · refine zx_iloadN dL_reads__126 rfl rfl ?_
                    refine zx_iload dL_reads__127 rfl ?_
                    refine zx_icmp_ne (tgt := 136) (by first | exact hz92 _ _ | assumption | exact zr_b _ | exact zcmp_r _ _ | exact hzD _ _ | exact zr3 (tS_b hW _) | exact zr3 (lsc_b hW _ _) | exact zr3 (sc_b hW _ _) | exact rkP_zr hW _ | exact scA_zr hW _ _ | exact zr3 (cW_b hW) | exact zr3 (wS_b hW) | exact zr3 (wS_b hWn) | (unfold zr at *; omega)) (by first | exact hz92 _ _ | assumption | exact zr_b _ | exact zcmp_r _ _ | exact hzD _ _ | exact zr3 (tS_b hW _) | exact zr3 (lsc_b hW _ _) | exact zr3 (sc_b hW _ _) | exact rkP_zr hW _ | exact scA_zr hW _ _ | exact zr3 (cW_b hW) | exact zr3 (wS_b hW) | exact zr3 (wS_b hWn) | (unfold zr at *; omega)) dL_reads__129 (by decide) (fun h129 => ?_) (fun h129 => ?_)
                    · exfalso; exact h129 (by rw [hcs.2.1 (by omega) h123])
                    · refine zx_iconst dL_reads__132 ?_
                      refine zx_goto (tgt := 157) dL_reads__133 (by decide) ?_
                      refine zx_iret rfl rfl dL_reads__157 ?_
                      rw [hQ]
                      refine ⟨congrArg (fun z : Int => (Sum.inl (some (zi z)) : Option zV ⊕ String)) ?_, ?_⟩
                      · first | rfl | assumption | omega
                      exact AP_d (zJ (zJ (zJ (zJ (zSame_rf _ _) hr2.2.1) hr8.2.1) hr13.2.1) hr19.2.1) hr35 (zJ (zJ (zSame_rf _ _) hr84.2.1) hr92.2.1) hz92
                · refine zx_iloadN dL_reads__106 rfl rfl ?_
                  refine zx_iload dL_reads__107 rfl ?_
                  refine zx_icmp_ne (tgt := 116) (by first | exact hz92 _ _ | assumption | exact zr_b _ | exact zcmp_r _ _ | exact hzD _ _ | exact zr3 (tS_b hW _) | exact zr3 (lsc_b hW _ _) | exact zr3 (sc_b hW _ _) | exact rkP_zr hW _ | exact scA_zr hW _ _ | exact zr3 (cW_b hW) | exact zr3 (wS_b hW) | exact zr3 (wS_b hWn) | (unfold zr at *; omega)) (by first | exact hz92 _ _ | assumption | exact zr_b _ | exact zcmp_r _ _ | exact hzD _ _ | exact zr3 (tS_b hW _) | exact zr3 (lsc_b hW _ _) | exact zr3 (sc_b hW _ _) | exact rkP_zr hW _ | exact scA_zr hW _ _ | exact zr3 (cW_b hW) | exact zr3 (wS_b hW) | exact zr3 (wS_b hWn) | (unfold zr at *; omega)) dL_reads__109 (by decide) (fun h109 => ?_) (fun h109 => ?_)
                  · exfalso; exact h109 (by rw [hcs.1 h103])
                  · refine zx_iconst dL_reads__112 ?_
                    refine zx_goto (tgt := 157) dL_reads__113 (by decide) ?_
                    refine zx_iret rfl rfl dL_reads__157 ?_
                    rw [hQ]
                    refine ⟨congrArg (fun z : Int => (Sum.inl (some (zi z)) : Option zV ⊕ String)) ?_, ?_⟩
                    · first | rfl | assumption | omega
                    exact AP_d (zJ (zJ (zJ (zJ (zSame_rf _ _) hr2.2.1) hr8.2.1) hr13.2.1) hr19.2.1) hr35 (zJ (zJ (zSame_rf _ _) hr84.2.1) hr92.2.1) hz92
              · exfalso
                first
                | exact h88 rfl
                | exact h96 rfl
                | omega
                | (have q := (hnx.2 (by omega))
                   have e := hl.2.2.2.2 (nxU D).toNat (by show (((nxU D).toNat : Nat) : Int) < D 12 0; omega) 17 (by omega) (by omega)
                   rw [h80, rdB_s] at e
                   exact zb_0.mp e.symm (q.2 x hx.1))
          · refine zx_aloadN dL_reads__74 rfl rfl ?_
            refine zx_iload dL_reads__75 rfl ?_
            refine zy_cv [zi (nxU D)] (fX9_isRead  hfl hz35 rfl hr35.2.2.2.2.2.1 (by first | exact hz35 _ _ | assumption | exact zr_b _ | exact zcmp_r _ _ | exact hzD _ _ | exact zr3 (tS_b hW _) | exact zr3 (lsc_b hW _ _) | exact zr3 (sc_b hW _ _) | exact rkP_zr hW _ | exact scA_zr hW _ _ | exact zr3 (cW_b hW) | exact zr3 (wS_b hW) | exact zr3 (wS_b hWn) | (unfold zr at *; omega)) (by first | assumption | omega)) dL_reads__77 (by decide) rfl cw_RL_122 okX9_isRead rfl (Nat.le_of_ble_eq_true rfl) ⟨Nat.le_of_ble_eq_true rfl, Nat.le_of_ble_eq_true rfl, Nat.le_of_ble_eq_true rfl, Nat.le_of_ble_eq_true rfl⟩ ?_
            refine zx_if_eq (tgt := 99) (by first | exact hz35 _ _ | assumption | exact zr_b _ | exact zcmp_r _ _ | exact hzD _ _ | exact zr3 (tS_b hW _) | exact zr3 (lsc_b hW _ _) | exact zr3 (sc_b hW _ _) | exact rkP_zr hW _ | exact scA_zr hW _ _ | exact zr3 (cW_b hW) | exact zr3 (wS_b hW) | exact zr3 (wS_b hWn) | (unfold zr at *; omega)) dL_reads__80 (by decide) (fun h80 => ?_) (fun h80 => ?_)
            · exfalso
              first
              | exact h88 rfl
              | exact h96 rfl
              | omega
              | (have q := (hnx.2 (by omega))
                 have e := hl.2.2.2.2 (nxU D).toNat (by show (((nxU D).toNat : Nat) : Int) < D 12 0; omega) 17 (by omega) (by omega)
                 rw [h80, rdB_s] at e
                 exact zb_0.mp e.symm (q.2 x hx.1))
            · refine zx_aloadN dL_reads__83 rfl rfl ?_
              refine zy_cvR [] (fX9_verdictPrinter  hfl hz35 rfl hr35.2.2.2.2.2.1 hP1n) dL_reads__84 (by decide) rfl cw_RL_174 okX9_verdictPrinter rfl (Nat.le_of_ble_eq_true rfl) ⟨Nat.le_of_ble_eq_true rfl, Nat.le_of_ble_eq_true rfl, Nat.le_of_ble_eq_true rfl, Nat.le_of_ble_eq_true rfl⟩ (fun τ84 hr84 => ?_)
              have hz84 : zOK τ84 := hr84.1
              refine zy_top (b := ((wP D (Hd D x (-1)) : Nat) : Int)) (by rw [eP]) ?_
              refine zx_iloadN dL_reads__87 rfl rfl ?_
              refine zx_icmp_ne (tgt := 99) (by first | exact hz84 _ _ | assumption | exact zr_b _ | exact zcmp_r _ _ | exact hzD _ _ | exact zr3 (tS_b hW _) | exact zr3 (lsc_b hW _ _) | exact zr3 (sc_b hW _ _) | exact rkP_zr hW _ | exact scA_zr hW _ _ | exact zr3 (cW_b hW) | exact zr3 (wS_b hW) | exact zr3 (wS_b hWn) | (unfold zr at *; omega)) (by first | exact hz84 _ _ | assumption | exact zr_b _ | exact zcmp_r _ _ | exact hzD _ _ | exact zr3 (tS_b hW _) | exact zr3 (lsc_b hW _ _) | exact zr3 (sc_b hW _ _) | exact rkP_zr hW _ | exact scA_zr hW _ _ | exact zr3 (cW_b hW) | exact zr3 (wS_b hW) | exact zr3 (wS_b hWn) | (unfold zr at *; omega)) dL_reads__88 (by decide) (fun h88 => ?_) (fun h88 => ?_)
              · exfalso
                first
                | exact h88 rfl
                | exact h96 rfl
                | omega
                | (have q := (hnx.2 (by omega))
                   have e := hl.2.2.2.2 (nxU D).toNat (by show (((nxU D).toNat : Nat) : Int) < D 12 0; omega) 17 (by omega) (by omega)
                   rw [h80, rdB_s] at e
                   exact zb_0.mp e.symm (q.2 x hx.1))
              · refine zx_aloadN dL_reads__91 rfl rfl ?_
                refine zy_cvR [] (fX9_verdictYear  hfl hz84 hr84.2.2 hr35.2.2.2.2.2.1 hP1n) dL_reads__92 (by decide) rfl cw_RL_177 okX9_verdictYear rfl (Nat.le_of_ble_eq_true rfl) ⟨Nat.le_of_ble_eq_true rfl, Nat.le_of_ble_eq_true rfl, Nat.le_of_ble_eq_true rfl, Nat.le_of_ble_eq_true rfl⟩ (fun τ92 hr92 => ?_)
                have hz92 : zOK τ92 := hr92.1
                refine zy_top (b := wY D (Hd D x (-1))) (eY) ?_
                refine zx_iloadN dL_reads__95 rfl rfl ?_
                refine zx_icmp_eq (tgt := 101) (by first | exact hz92 _ _ | assumption | exact zr_b _ | exact zcmp_r _ _ | exact hzD _ _ | exact zr3 (tS_b hW _) | exact zr3 (lsc_b hW _ _) | exact zr3 (sc_b hW _ _) | exact rkP_zr hW _ | exact scA_zr hW _ _ | exact zr3 (cW_b hW) | exact zr3 (wS_b hW) | exact zr3 (wS_b hWn) | (unfold zr at *; omega)) (by first | exact hz92 _ _ | assumption | exact zr_b _ | exact zcmp_r _ _ | exact hzD _ _ | exact zr3 (tS_b hW _) | exact zr3 (lsc_b hW _ _) | exact zr3 (sc_b hW _ _) | exact rkP_zr hW _ | exact scA_zr hW _ _ | exact zr3 (cW_b hW) | exact zr3 (wS_b hW) | exact zr3 (wS_b hWn) | (unfold zr at *; omega)) dL_reads__96 (by decide) (fun h96 => ?_) (fun h96 => ?_)
                · refine zx_iload dL_reads__101 rfl ?_
                  refine zx_if_ge (tgt := 120) (by first | exact hz92 _ _ | assumption | exact zr_b _ | exact zcmp_r _ _ | exact hzD _ _ | exact zr3 (tS_b hW _) | exact zr3 (lsc_b hW _ _) | exact zr3 (sc_b hW _ _) | exact rkP_zr hW _ | exact scA_zr hW _ _ | exact zr3 (cW_b hW) | exact zr3 (wS_b hW) | exact zr3 (wS_b hWn) | (unfold zr at *; omega)) dL_reads__103 (by decide) (fun h103 => ?_) (fun h103 => ?_)
                  · refine zx_iloadN dL_reads__120 rfl rfl ?_
                    refine zx_iload dL_reads__121 rfl ?_
                    refine zx_icmp_ge (tgt := 140) (by first | exact hz92 _ _ | assumption | exact zr_b _ | exact zcmp_r _ _ | exact hzD _ _ | exact zr3 (tS_b hW _) | exact zr3 (lsc_b hW _ _) | exact zr3 (sc_b hW _ _) | exact rkP_zr hW _ | exact scA_zr hW _ _ | exact zr3 (cW_b hW) | exact zr3 (wS_b hW) | exact zr3 (wS_b hWn) | (unfold zr at *; omega)) (by first | exact hz92 _ _ | assumption | exact zr_b _ | exact zcmp_r _ _ | exact hzD _ _ | exact zr3 (tS_b hW _) | exact zr3 (lsc_b hW _ _) | exact zr3 (sc_b hW _ _) | exact rkP_zr hW _ | exact scA_zr hW _ _ | exact zr3 (cW_b hW) | exact zr3 (wS_b hW) | exact zr3 (wS_b hWn) | (unfold zr at *; omega)) dL_reads__123 (by decide) (fun h123 => ?_) (fun h123 => ?_)
                    · refine zx_iloadN dL_reads__140 rfl rfl ?_
                      refine zx_iload dL_reads__141 rfl ?_
                      refine zx_icmp_gt (tgt := 152) (by first | exact hz92 _ _ | assumption | exact zr_b _ | exact zcmp_r _ _ | exact hzD _ _ | exact zr3 (tS_b hW _) | exact zr3 (lsc_b hW _ _) | exact zr3 (sc_b hW _ _) | exact rkP_zr hW _ | exact scA_zr hW _ _ | exact zr3 (cW_b hW) | exact zr3 (wS_b hW) | exact zr3 (wS_b hWn) | (unfold zr at *; omega)) (by first | exact hz92 _ _ | assumption | exact zr_b _ | exact zcmp_r _ _ | exact hzD _ _ | exact zr3 (tS_b hW _) | exact zr3 (lsc_b hW _ _) | exact zr3 (sc_b hW _ _) | exact rkP_zr hW _ | exact scA_zr hW _ _ | exact zr3 (cW_b hW) | exact zr3 (wS_b hW) | exact zr3 (wS_b hWn) | (unfold zr at *; omega)) dL_reads__143 (by decide) (fun h143 => ?_) (fun h143 => ?_)
                      · refine zx_iconst dL_reads__152 ?_
                        refine zx_goto (tgt := 157) dL_reads__153 (by decide) ?_
                        refine zx_iret rfl rfl dL_reads__157 ?_
                        rw [hQ]
                        refine ⟨congrArg (fun z : Int => (Sum.inl (some (zi z)) : Option zV ⊕ String)) ?_, ?_⟩
                        · first | rfl | assumption | omega
                        exact AP_d (zJ (zJ (zJ (zJ (zSame_rf _ _) hr2.2.1) hr8.2.1) hr13.2.1) hr19.2.1) hr35 (zJ (zJ (zSame_rf _ _) hr84.2.1) hr92.2.1) hz92
                      · refine zx_iloadN dL_reads__146 rfl rfl ?_
                        refine zx_iload dL_reads__147 rfl ?_
                        refine zx_icmp_eq (tgt := 156) (by first | exact hz92 _ _ | assumption | exact zr_b _ | exact zcmp_r _ _ | exact hzD _ _ | exact zr3 (tS_b hW _) | exact zr3 (lsc_b hW _ _) | exact zr3 (sc_b hW _ _) | exact rkP_zr hW _ | exact scA_zr hW _ _ | exact zr3 (cW_b hW) | exact zr3 (wS_b hW) | exact zr3 (wS_b hWn) | (unfold zr at *; omega)) (by first | exact hz92 _ _ | assumption | exact zr_b _ | exact zcmp_r _ _ | exact hzD _ _ | exact zr3 (tS_b hW _) | exact zr3 (lsc_b hW _ _) | exact zr3 (sc_b hW _ _) | exact rkP_zr hW _ | exact scA_zr hW _ _ | exact zr3 (cW_b hW) | exact zr3 (wS_b hW) | exact zr3 (wS_b hWn) | (unfold zr at *; omega)) dL_reads__149 (by decide) (fun h149 => ?_) (fun h149 => ?_)
                        · exfalso; exact hcs.2.2 (by omega) (by omega) (by omega)
                        · refine zx_iconst dL_reads__152 ?_
                          refine zx_goto (tgt := 157) dL_reads__153 (by decide) ?_
                          refine zx_iret rfl rfl dL_reads__157 ?_
                          rw [hQ]
                          refine ⟨congrArg (fun z : Int => (Sum.inl (some (zi z)) : Option zV ⊕ String)) ?_, ?_⟩
                          · first | rfl | assumption | omega
                          exact AP_d (zJ (zJ (zJ (zJ (zSame_rf _ _) hr2.2.1) hr8.2.1) hr13.2.1) hr19.2.1) hr35 (zJ (zJ (zSame_rf _ _) hr84.2.1) hr92.2.1) hz92
                    · refine zx_iloadN dL_reads__126 rfl rfl ?_
                      refine zx_iload dL_reads__127 rfl ?_
                      refine zx_icmp_ne (tgt := 136) (by first | exact hz92 _ _ | assumption | exact zr_b _ | exact zcmp_r _ _ | exact hzD _ _ | exact zr3 (tS_b hW _) | exact zr3 (lsc_b hW _ _) | exact zr3 (sc_b hW _ _) | exact rkP_zr hW _ | exact scA_zr hW _ _ | exact zr3 (cW_b hW) | exact zr3 (wS_b hW) | exact zr3 (wS_b hWn) | (unfold zr at *; omega)) (by first | exact hz92 _ _ | assumption | exact zr_b _ | exact zcmp_r _ _ | exact hzD _ _ | exact zr3 (tS_b hW _) | exact zr3 (lsc_b hW _ _) | exact zr3 (sc_b hW _ _) | exact rkP_zr hW _ | exact scA_zr hW _ _ | exact zr3 (cW_b hW) | exact zr3 (wS_b hW) | exact zr3 (wS_b hWn) | (unfold zr at *; omega)) dL_reads__129 (by decide) (fun h129 => ?_) (fun h129 => ?_)
                      · exfalso; exact h129 (by rw [hcs.2.1 (by omega) h123])
                      · refine zx_iconst dL_reads__132 ?_
                        refine zx_goto (tgt := 157) dL_reads__133 (by decide) ?_
                        refine zx_iret rfl rfl dL_reads__157 ?_
                        rw [hQ]
                        refine ⟨congrArg (fun z : Int => (Sum.inl (some (zi z)) : Option zV ⊕ String)) ?_, ?_⟩
                        · first | rfl | assumption | omega
                        exact AP_d (zJ (zJ (zJ (zJ (zSame_rf _ _) hr2.2.1) hr8.2.1) hr13.2.1) hr19.2.1) hr35 (zJ (zJ (zSame_rf _ _) hr84.2.1) hr92.2.1) hz92
                  · refine zx_iloadN dL_reads__106 rfl rfl ?_
                    refine zx_iload dL_reads__107 rfl ?_
                    refine zx_icmp_ne (tgt := 116) (by first | exact hz92 _ _ | assumption | exact zr_b _ | exact zcmp_r _ _ | exact hzD _ _ | exact zr3 (tS_b hW _) | exact zr3 (lsc_b hW _ _) | exact zr3 (sc_b hW _ _) | exact rkP_zr hW _ | exact scA_zr hW _ _ | exact zr3 (cW_b hW) | exact zr3 (wS_b hW) | exact zr3 (wS_b hWn) | (unfold zr at *; omega)) (by first | exact hz92 _ _ | assumption | exact zr_b _ | exact zcmp_r _ _ | exact hzD _ _ | exact zr3 (tS_b hW _) | exact zr3 (lsc_b hW _ _) | exact zr3 (sc_b hW _ _) | exact rkP_zr hW _ | exact scA_zr hW _ _ | exact zr3 (cW_b hW) | exact zr3 (wS_b hW) | exact zr3 (wS_b hWn) | (unfold zr at *; omega)) dL_reads__109 (by decide) (fun h109 => ?_) (fun h109 => ?_)
                    · exfalso; exact h109 (by rw [hcs.1 h103])
                    · refine zx_iconst dL_reads__112 ?_
                      refine zx_goto (tgt := 157) dL_reads__113 (by decide) ?_
                      refine zx_iret rfl rfl dL_reads__157 ?_
                      rw [hQ]
                      refine ⟨congrArg (fun z : Int => (Sum.inl (some (zi z)) : Option zV ⊕ String)) ?_, ?_⟩
                      · first | rfl | assumption | omega
                      exact AP_d (zJ (zJ (zJ (zJ (zSame_rf _ _) hr2.2.1) hr8.2.1) hr13.2.1) hr19.2.1) hr35 (zJ (zJ (zSame_rf _ _) hr84.2.1) hr92.2.1) hz92
                · exfalso
                  first
                  | exact h88 rfl
                  | exact h96 rfl
                  | omega
                  | (have q := (hnx.2 (by omega))
                     have e := hl.2.2.2.2 (nxU D).toNat (by show (((nxU D).toNat : Nat) : Int) < D 12 0; omega) 17 (by omega) (by omega)
                     rw [h80, rdB_s] at e
                     exact zb_0.mp e.symm (q.2 x hx.1))
set_option maxRecDepth 20000 in
set_option maxHeartbeats 2000000 in
theorem sL_acts_a {l : Launch} {w : zW} (hfl : l.stackTraces = false) {σ : zS} {D : zBk} {mk u x y z : Int} (hz : zOK σ) (hB : bK σ = D) (hW : WF D) (hP1 : 1 ≤ D 1 0) (hN : HN σ) (hA : HBA σ) (hu : 0 ≤ u ∧ u ≤ 2) (hm : D 1 7 = mk) (hmb : 0 ≤ mk ∧ mk ≤ 2) (hx : 0 ≤ x ∧ x ≤ 99999) (hy : 0 ≤ y ∧ y ≤ 99999) (hzz : 0 ≤ z ∧ z ≤ 99999) : Sp l w mL_acts 12 1 [zf 9 0, zi mk, zi u, zi x, zi y, zi z] σ (zqv (some (zi 1)) (fun τ => AP σ τ D (aB mk u x y z D))) := by
  obtain ⟨Q, hQ⟩ : ∃ Q : zQ, Q = (zqv (some (zi 1)) (fun τ => AP σ τ D (aB mk u x y z D))) := ⟨_, rfl⟩
  rw [← hQ]
  refine zx_enter hfl (by decide) rfl 8 rfl ?_
  show zX l w mL_acts (zMQ w 12 1 Q) 0 [zf 9 0, zi mk, zi u, zi x, zi y, zi z, zu, zu, zu, zu, zu, zu, zu, zu] [] 0 σ
  have hzD := hzDof hB hz
  have hn1 : 0 ≤ D 1 0 ∧ D 1 0 ≤ 8 := hW.1.1
  have hn12 : 0 ≤ D 12 0 ∧ D 12 0 ≤ 40 := hW.1.2.2.2
  have hwl : (wP D (Ht D) : Int) < D 1 0 := wP_l hW hP1
  have hwy := wY_b hW hP1
  have hws := wS_b hW
  have q5 : 0 ≤ y % 5 ∧ y % 5 < 5 := by omega
  have q0 : D 12 0 ≠ 0 → 0 ≤ x % D 12 0 := fun q => Int.emod_nonneg _ q
  have q1 : D 12 0 ≠ 0 → x % D 12 0 < D 12 0 := fun q => Int.emod_lt_of_pos _ (by omega)
  have q2 : 0 ≤ x % D 1 0 := Int.emod_nonneg _ (by omega)
  have q3 : x % D 1 0 < D 1 0 := Int.emod_lt_of_pos _ (by omega)
  have q4 : 0 ≤ y % D 1 0 := Int.emod_nonneg _ (by omega)
  have q6 : y % D 1 0 < D 1 0 := Int.emod_lt_of_pos _ (by omega)
  refine zx_aloadN dL_acts_0 rfl rfl ?_
  refine zy_cv [] (fX9_clueCount  hfl hz hB hW) dL_acts_1 (by decide) rfl cw_RL_98 okX9_clueCount rfl (Nat.le_of_ble_eq_true rfl) ⟨Nat.le_of_ble_eq_true rfl, Nat.le_of_ble_eq_true rfl, Nat.le_of_ble_eq_true rfl, Nat.le_of_ble_eq_true rfl⟩ ?_
  refine zy_istore [zf 9 0, zi mk, zi u, zi x, zi y, zi z, zi (D 12 0), zu, zu, zu, zu, zu, zu, zu] dL_acts_4 (Nat.le_of_ble_eq_true rfl) (Nat.le_of_ble_eq_true rfl) rfl rfl ?_
  refine zx_iload dL_acts_6 rfl ?_
  refine zx_if_ne (tgt := 15) (by first | exact hz _ _ | assumption | exact zr_b _ | exact zcmp_r _ _ | exact hzD _ _ | exact zr3 (tS_b hW _) | exact zr3 (lsc_b hW _ _) | exact zr3 (sc_b hW _ _) | exact rkP_zr hW _ | exact scA_zr hW _ _ | exact zr3 (cW_b hW) | exact zr3 (wS_b hW) | exact zr3 (wS_b hWn) | (unfold zr at *; omega)) dL_acts_8 (by decide) (fun h8 => ?_) (fun h8 => ?_)
  · refine zx_iloadN dL_acts_15 rfl rfl ?_
    refine zx_iload dL_acts_16 rfl ?_
    refine zx_irem (by omega) (by omega) (by omega) (by omega) dL_acts_18 ?_
    refine zy_istore [zf 9 0, zi mk, zi u, zi x, zi y, zi z, zi (D 12 0), zi (x % (D 12 0)), zu, zu, zu, zu, zu, zu] dL_acts_19 (Nat.le_of_ble_eq_true rfl) (Nat.le_of_ble_eq_true rfl) rfl rfl ?_
    refine zx_iloadN dL_acts_21 rfl rfl ?_
    have J72 : zX l w mL_acts (zMQ w 12 1 Q) 72 [zf 9 0, zi mk, zi u, zi x, zi y, zi z, zi (D 12 0), zi (x % (D 12 0)), zu, zu, zu, zu, zu, zu] [] 0 σ := by
      refine zx_iload dL_acts_72 rfl ?_
      refine zx_iconst dL_acts_74 ?_
      refine zx_irem (by omega) (by omega) (by omega) (by omega) dL_acts_75 ?_
      refine zy_istore [zf 9 0, zi mk, zi u, zi x, zi y, zi z, zi (D 12 0), zi (x % (D 12 0)), zi (y % 5), zu, zu, zu, zu, zu] dL_acts_76 (Nat.le_of_ble_eq_true rfl) (Nat.le_of_ble_eq_true rfl) rfl rfl ?_
      refine zx_iload dL_acts_78 rfl ?_
      refine zx_iconst dL_acts_80 ?_
      refine zx_icmp_ne (tgt := 107) (by first | exact hz _ _ | assumption | exact zr_b _ | exact zcmp_r _ _ | exact hzD _ _ | exact zr3 (tS_b hW _) | exact zr3 (lsc_b hW _ _) | exact zr3 (sc_b hW _ _) | exact rkP_zr hW _ | exact scA_zr hW _ _ | exact zr3 (cW_b hW) | exact zr3 (wS_b hW) | exact zr3 (wS_b hWn) | (unfold zr at *; omega)) (by first | exact hz _ _ | assumption | exact zr_b _ | exact zcmp_r _ _ | exact hzD _ _ | exact zr3 (tS_b hW _) | exact zr3 (lsc_b hW _ _) | exact zr3 (sc_b hW _ _) | exact rkP_zr hW _ | exact scA_zr hW _ _ | exact zr3 (cW_b hW) | exact zr3 (wS_b hW) | exact zr3 (wS_b hWn) | (unfold zr at *; omega)) dL_acts_81 (by decide) (fun h81 => ?_) (fun h81 => ?_)
      · have hvk : WFk D (y % 5) (aV mk (y % 5) z) := aV_k hm hmb (by omega) hzz.1 (by omega)
        have hvz : zr (aV mk (y % 5) z) := by obtain ⟨-, -, v0, v1, -⟩ := hvk; unfold zr; omega
        refine zx_iload dL_acts_107 rfl ?_
        refine zx_if_ne (tgt := 119) (by first | exact hz _ _ | assumption | exact zr_b _ | exact zcmp_r _ _ | exact hzD _ _ | exact zr3 (tS_b hW _) | exact zr3 (lsc_b hW _ _) | exact zr3 (sc_b hW _ _) | exact rkP_zr hW _ | exact scA_zr hW _ _ | exact zr3 (cW_b hW) | exact zr3 (wS_b hW) | exact zr3 (wS_b hWn) | (unfold zr at *; omega)) dL_acts_109 (by decide) (fun h109 => ?_) (fun h109 => ?_)
        · refine zx_iload dL_acts_119 rfl ?_
          refine zx_iconst dL_acts_121 ?_
          refine zx_icmp_ne (tgt := 132) (by first | exact hz _ _ | assumption | exact zr_b _ | exact zcmp_r _ _ | exact hzD _ _ | exact zr3 (tS_b hW _) | exact zr3 (lsc_b hW _ _) | exact zr3 (sc_b hW _ _) | exact rkP_zr hW _ | exact scA_zr hW _ _ | exact zr3 (cW_b hW) | exact zr3 (wS_b hW) | exact zr3 (wS_b hWn) | (unfold zr at *; omega)) (by first | exact hz _ _ | assumption | exact zr_b _ | exact zcmp_r _ _ | exact hzD _ _ | exact zr3 (tS_b hW _) | exact zr3 (lsc_b hW _ _) | exact zr3 (sc_b hW _ _) | exact rkP_zr hW _ | exact scA_zr hW _ _ | exact zr3 (cW_b hW) | exact zr3 (wS_b hW) | exact zr3 (wS_b hWn) | (unfold zr at *; omega)) dL_acts_122 (by decide) (fun h122 => ?_) (fun h122 => ?_)
          · refine zx_iload dL_acts_132 rfl ?_
            refine zx_iconst dL_acts_134 ?_
            refine zx_icmp_ne (tgt := 145) (by first | exact hz _ _ | assumption | exact zr_b _ | exact zcmp_r _ _ | exact hzD _ _ | exact zr3 (tS_b hW _) | exact zr3 (lsc_b hW _ _) | exact zr3 (sc_b hW _ _) | exact rkP_zr hW _ | exact scA_zr hW _ _ | exact zr3 (cW_b hW) | exact zr3 (wS_b hW) | exact zr3 (wS_b hWn) | (unfold zr at *; omega)) (by first | exact hz _ _ | assumption | exact zr_b _ | exact zcmp_r _ _ | exact hzD _ _ | exact zr3 (tS_b hW _) | exact zr3 (lsc_b hW _ _) | exact zr3 (sc_b hW _ _) | exact rkP_zr hW _ | exact scA_zr hW _ _ | exact zr3 (cW_b hW) | exact zr3 (wS_b hW) | exact zr3 (wS_b hWn) | (unfold zr at *; omega)) dL_acts_135 (by decide) (fun h135 => ?_) (fun h135 => ?_)
            · refine zx_iload dL_acts_145 rfl ?_
              refine zx_iconst dL_acts_147 ?_
              refine zx_icmp_ne (tgt := 158) (by first | exact hz _ _ | assumption | exact zr_b _ | exact zcmp_r _ _ | exact hzD _ _ | exact zr3 (tS_b hW _) | exact zr3 (lsc_b hW _ _) | exact zr3 (sc_b hW _ _) | exact rkP_zr hW _ | exact scA_zr hW _ _ | exact zr3 (cW_b hW) | exact zr3 (wS_b hW) | exact zr3 (wS_b hWn) | (unfold zr at *; omega)) (by first | exact hz _ _ | assumption | exact zr_b _ | exact zcmp_r _ _ | exact hzD _ _ | exact zr3 (tS_b hW _) | exact zr3 (lsc_b hW _ _) | exact zr3 (sc_b hW _ _) | exact rkP_zr hW _ | exact scA_zr hW _ _ | exact zr3 (cW_b hW) | exact zr3 (wS_b hW) | exact zr3 (wS_b hWn) | (unfold zr at *; omega)) dL_acts_148 (by decide) (fun h148 => ?_) (fun h148 => ?_)
              · refine zx_sipush dL_acts_158 rfl ?_
                refine zx_iload dL_acts_161 rfl ?_
                refine zx_bipush dL_acts_163 rfl ?_
                refine zx_irem (by omega) (by omega) (by omega) (by omega) dL_acts_165 ?_
                refine zx_iadd dL_acts_166 ?_
                refine zy_top (b := aV mk (y % 5) z) ((by unfold aV; rw [if_neg h109, if_neg h122, if_neg h135, if_neg h148])) ?_
                refine zy_istore [zf 9 0, zi mk, zi u, zi x, zi y, zi z, zi (D 12 0), zi (x % (D 12 0)), zi (y % 5), zi (aV mk (y % 5) z), zu, zu, zu, zu] dL_acts_167 (Nat.le_of_ble_eq_true rfl) (Nat.le_of_ble_eq_true rfl) rfl rfl ?_
                refine zx_aloadN dL_acts_169 rfl rfl ?_
                refine zx_iload dL_acts_170 rfl ?_
                refine zx_iconst dL_acts_172 ?_
                refine zx_iloadN dL_acts_173 rfl rfl ?_
                refine zx_bipush dL_acts_174 rfl ?_
                refine zx_irem (by omega) (by omega) (by omega) (by omega) dL_acts_176 ?_
                refine zx_iadd dL_acts_177 ?_
                refine zx_iload dL_acts_178 rfl ?_
                refine zx_iconst dL_acts_180 ?_
                refine zx_iloadN dL_acts_181 rfl rfl ?_
                refine zx_iload dL_acts_182 rfl ?_
                refine zx_iadd dL_acts_184 ?_
                refine zx_bipush dL_acts_185 rfl ?_
                refine zx_irem (by omega) (by omega) (by omega) (by omega) dL_acts_187 ?_
                refine zx_iadd dL_acts_188 ?_
                by_cases hb189 : D 12 0 < 40
                · refine zy_csHR [zf 9 0, zi (y % 5), zi (1 + (x % 30)), zi (aV mk (y % 5) z), zi (1 + ((x + z) % 9))] (sL_does_add  hfl hz hB hW (HN_j hN (zSame_rf _ _)) (HBA_j hA (zSame_rf _ _)) (by first | assumption | omega) (by first | assumption | omega) (by first | assumption | omega) (by first | assumption | omega)) dL_acts_189 cw_RL_231 okL_does rfl (Nat.le_of_ble_eq_true rfl) ⟨Nat.le_of_ble_eq_true rfl, Nat.le_of_ble_eq_true rfl, Nat.le_of_ble_eq_true rfl, Nat.le_of_ble_eq_true rfl⟩ (fun τ189 hr189 => ?_)
                  have hz189 : zOK τ189 := hr189.1
                  have hl := hr189.2.2.2.2.2.2
                  have hWn := hr189.2.2.2.2.2.1
                  have hzDn := hzDof (rfl : bK τ189 = bK τ189) hz189
                  obtain ⟨e12, e14, e15, e17, e18⟩ := ad_post hl (by omega)
                  refine zy_istore [zf 9 0, zi mk, zi u, zi x, zi y, zi z, zi (D 12 0), zi (x % (D 12 0)), zi (y % 5), zi (aV mk (y % 5) z), zi (D 12 0), zu, zu, zu] dL_acts_192 (Nat.le_of_ble_eq_true rfl) (Nat.le_of_ble_eq_true rfl) rfl rfl ?_
                  refine zx_iload dL_acts_194 rfl ?_
                  refine zx_bipush dL_acts_196 rfl ?_
                  refine zx_icmp_ne (tgt := 216) (by first | exact hz189 _ _ | assumption | exact zr_b _ | exact zcmp_r _ _ | exact hzD _ _ | exact zr3 (tS_b hW _) | exact zr3 (lsc_b hW _ _) | exact zr3 (sc_b hW _ _) | exact rkP_zr hW _ | exact scA_zr hW _ _ | exact zr3 (cW_b hW) | exact zr3 (wS_b hW) | exact zr3 (wS_b hWn) | (unfold zr at *; omega)) (by first | exact hz189 _ _ | assumption | exact zr_b _ | exact zcmp_r _ _ | exact hzD _ _ | exact zr3 (tS_b hW _) | exact zr3 (lsc_b hW _ _) | exact zr3 (sc_b hW _ _) | exact rkP_zr hW _ | exact scA_zr hW _ _ | exact zr3 (cW_b hW) | exact zr3 (wS_b hW) | exact zr3 (wS_b hWn) | (unfold zr at *; omega)) dL_acts_198 (by decide) (fun h198 => ?_) (fun h198 => ?_)
                  · refine zx_iload dL_acts_216 rfl ?_
                    refine zx_iload dL_acts_218 rfl ?_
                    refine zx_icmp_ne (tgt := 267) (by first | exact hz189 _ _ | assumption | exact zr_b _ | exact zcmp_r _ _ | exact hzD _ _ | exact zr3 (tS_b hW _) | exact zr3 (lsc_b hW _ _) | exact zr3 (sc_b hW _ _) | exact rkP_zr hW _ | exact scA_zr hW _ _ | exact zr3 (cW_b hW) | exact zr3 (wS_b hW) | exact zr3 (wS_b hWn) | (unfold zr at *; omega)) (by first | exact hz189 _ _ | assumption | exact zr_b _ | exact zcmp_r _ _ | exact hzD _ _ | exact zr3 (tS_b hW _) | exact zr3 (lsc_b hW _ _) | exact zr3 (sc_b hW _ _) | exact rkP_zr hW _ | exact scA_zr hW _ _ | exact zr3 (cW_b hW) | exact zr3 (wS_b hW) | exact zr3 (wS_b hWn) | (unfold zr at *; omega)) dL_acts_220 (by decide) (fun h220 => ?_) (fun h220 => ?_)
                    · exfalso; omega
                    · refine zx_aloadN dL_acts_223 rfl rfl ?_
                      refine zx_iload dL_acts_224 rfl ?_
                      refine zy_cv [zi (D 12 0)] (fX9_isRead  hfl hz189 rfl hr189.2.2.2.2.2.1 (by first | exact hz189 _ _ | assumption | exact zr_b _ | exact zcmp_r _ _ | exact hzD _ _ | exact zr3 (tS_b hW _) | exact zr3 (lsc_b hW _ _) | exact zr3 (sc_b hW _ _) | exact rkP_zr hW _ | exact scA_zr hW _ _ | exact zr3 (cW_b hW) | exact zr3 (wS_b hW) | exact zr3 (wS_b hWn) | (unfold zr at *; omega)) (by first | assumption | omega)) dL_acts_226 (by decide) rfl cw_RL_122 okX9_isRead rfl (Nat.le_of_ble_eq_true rfl) ⟨Nat.le_of_ble_eq_true rfl, Nat.le_of_ble_eq_true rfl, Nat.le_of_ble_eq_true rfl, Nat.le_of_ble_eq_true rfl⟩ ?_
                      refine zx_if_ne (tgt := 267) (by first | exact hz189 _ _ | assumption | exact zr_b _ | exact zcmp_r _ _ | exact hzD _ _ | exact zr3 (tS_b hW _) | exact zr3 (lsc_b hW _ _) | exact zr3 (sc_b hW _ _) | exact rkP_zr hW _ | exact scA_zr hW _ _ | exact zr3 (cW_b hW) | exact zr3 (wS_b hW) | exact zr3 (wS_b hWn) | (unfold zr at *; omega)) dL_acts_229 (by decide) (fun h229 => ?_) (fun h229 => ?_)
                      · exfalso; omega
                      · refine zx_aloadN dL_acts_232 rfl rfl ?_
                        refine zx_iload dL_acts_233 rfl ?_
                        refine zy_cv [zi (D 12 0)] (fX9_isAside  hfl hz189 rfl hr189.2.2.2.2.2.1 (by first | exact hz189 _ _ | assumption | exact zr_b _ | exact zcmp_r _ _ | exact hzD _ _ | exact zr3 (tS_b hW _) | exact zr3 (lsc_b hW _ _) | exact zr3 (sc_b hW _ _) | exact rkP_zr hW _ | exact scA_zr hW _ _ | exact zr3 (cW_b hW) | exact zr3 (wS_b hW) | exact zr3 (wS_b hWn) | (unfold zr at *; omega)) (by first | assumption | omega)) dL_acts_235 (by decide) rfl cw_RL_128 okX9_isAside rfl (Nat.le_of_ble_eq_true rfl) ⟨Nat.le_of_ble_eq_true rfl, Nat.le_of_ble_eq_true rfl, Nat.le_of_ble_eq_true rfl, Nat.le_of_ble_eq_true rfl⟩ ?_
                        refine zx_if_ne (tgt := 267) (by first | exact hz189 _ _ | assumption | exact zr_b _ | exact zcmp_r _ _ | exact hzD _ _ | exact zr3 (tS_b hW _) | exact zr3 (lsc_b hW _ _) | exact zr3 (sc_b hW _ _) | exact rkP_zr hW _ | exact scA_zr hW _ _ | exact zr3 (cW_b hW) | exact zr3 (wS_b hW) | exact zr3 (wS_b hWn) | (unfold zr at *; omega)) dL_acts_238 (by decide) (fun h238 => ?_) (fun h238 => ?_)
                        · exfalso; omega
                        · refine zx_aloadN dL_acts_241 rfl rfl ?_
                          refine zx_iload dL_acts_242 rfl ?_
                          refine zy_cv [zi (D 12 0)] (fX9_kindOf  hfl hz189 rfl hr189.2.2.2.2.2.1 (by first | exact hz189 _ _ | assumption | exact zr_b _ | exact zcmp_r _ _ | exact hzD _ _ | exact zr3 (tS_b hW _) | exact zr3 (lsc_b hW _ _) | exact zr3 (sc_b hW _ _) | exact rkP_zr hW _ | exact scA_zr hW _ _ | exact zr3 (cW_b hW) | exact zr3 (wS_b hW) | exact zr3 (wS_b hWn) | (unfold zr at *; omega)) (by first | assumption | omega)) dL_acts_244 (by decide) rfl cw_RL_109 okX9_kindOf rfl (Nat.le_of_ble_eq_true rfl) ⟨Nat.le_of_ble_eq_true rfl, Nat.le_of_ble_eq_true rfl, Nat.le_of_ble_eq_true rfl, Nat.le_of_ble_eq_true rfl⟩ ?_
                          refine zx_iload dL_acts_247 rfl ?_
                          refine zx_icmp_ne (tgt := 267) (by first | exact hz189 _ _ | assumption | exact zr_b _ | exact zcmp_r _ _ | exact hzD _ _ | exact zr3 (tS_b hW _) | exact zr3 (lsc_b hW _ _) | exact zr3 (sc_b hW _ _) | exact rkP_zr hW _ | exact scA_zr hW _ _ | exact zr3 (cW_b hW) | exact zr3 (wS_b hW) | exact zr3 (wS_b hWn) | (unfold zr at *; omega)) (by first | exact hz189 _ _ | assumption | exact zr_b _ | exact zcmp_r _ _ | exact hzD _ _ | exact zr3 (tS_b hW _) | exact zr3 (lsc_b hW _ _) | exact zr3 (sc_b hW _ _) | exact rkP_zr hW _ | exact scA_zr hW _ _ | exact zr3 (cW_b hW) | exact zr3 (wS_b hW) | exact zr3 (wS_b hWn) | (unfold zr at *; omega)) dL_acts_249 (by decide) (fun h249 => ?_) (fun h249 => ?_)
                          · exfalso; omega
                          · refine zx_aloadN dL_acts_252 rfl rfl ?_
                            refine zx_iload dL_acts_253 rfl ?_
                            refine zy_cv [zi (D 12 0)] (fX9_valueOf  hfl hz189 rfl hr189.2.2.2.2.2.1 (by first | exact hz189 _ _ | assumption | exact zr_b _ | exact zcmp_r _ _ | exact hzD _ _ | exact zr3 (tS_b hW _) | exact zr3 (lsc_b hW _ _) | exact zr3 (sc_b hW _ _) | exact rkP_zr hW _ | exact scA_zr hW _ _ | exact zr3 (cW_b hW) | exact zr3 (wS_b hW) | exact zr3 (wS_b hWn) | (unfold zr at *; omega)) (by first | assumption | omega)) dL_acts_255 (by decide) rfl cw_RL_114 okX9_valueOf rfl (Nat.le_of_ble_eq_true rfl) ⟨Nat.le_of_ble_eq_true rfl, Nat.le_of_ble_eq_true rfl, Nat.le_of_ble_eq_true rfl, Nat.le_of_ble_eq_true rfl⟩ ?_
                            refine zx_iload dL_acts_258 rfl ?_
                            refine zx_icmp_ne (tgt := 267) (by first | exact hz189 _ _ | assumption | exact zr_b _ | exact zcmp_r _ _ | exact hzD _ _ | exact zr3 (tS_b hW _) | exact zr3 (lsc_b hW _ _) | exact zr3 (sc_b hW _ _) | exact rkP_zr hW _ | exact scA_zr hW _ _ | exact zr3 (cW_b hW) | exact zr3 (wS_b hW) | exact zr3 (wS_b hWn) | (unfold zr at *; omega)) (by first | exact hz189 _ _ | assumption | exact zr_b _ | exact zcmp_r _ _ | exact hzD _ _ | exact zr3 (tS_b hW _) | exact zr3 (lsc_b hW _ _) | exact zr3 (sc_b hW _ _) | exact rkP_zr hW _ | exact scA_zr hW _ _ | exact zr3 (cW_b hW) | exact zr3 (wS_b hW) | exact zr3 (wS_b hWn) | (unfold zr at *; omega)) dL_acts_260 (by decide) (fun h260 => ?_) (fun h260 => ?_)
                            · exfalso; omega
                            · refine zx_iconst dL_acts_263 ?_
                              refine zx_goto (tgt := 268) dL_acts_264 (by decide) ?_
                              refine zx_iret rfl rfl dL_acts_268 ?_
                              rw [hQ]
                              refine ⟨congrArg (fun z : Int => (Sum.inl (some (zi z)) : Option zV ⊕ String)) ?_, ?_⟩
                              · first | rfl | assumption | omega
                              exact AP_e (aB_1 hu.2 (by omega)) (AP_d (zSame_rf _ _) hr189 (zSame_rf _ _) hz189)
                  · refine zx_iload dL_acts_201 rfl ?_
                    refine zx_bipush dL_acts_203 rfl ?_
                    refine zx_icmp_ne (tgt := 212) (by first | exact hz189 _ _ | assumption | exact zr_b _ | exact zcmp_r _ _ | exact hzD _ _ | exact zr3 (tS_b hW _) | exact zr3 (lsc_b hW _ _) | exact zr3 (sc_b hW _ _) | exact rkP_zr hW _ | exact scA_zr hW _ _ | exact zr3 (cW_b hW) | exact zr3 (wS_b hW) | exact zr3 (wS_b hWn) | (unfold zr at *; omega)) (by first | exact hz189 _ _ | assumption | exact zr_b _ | exact zcmp_r _ _ | exact hzD _ _ | exact zr3 (tS_b hW _) | exact zr3 (lsc_b hW _ _) | exact zr3 (sc_b hW _ _) | exact rkP_zr hW _ | exact scA_zr hW _ _ | exact zr3 (cW_b hW) | exact zr3 (wS_b hW) | exact zr3 (wS_b hWn) | (unfold zr at *; omega)) dL_acts_205 (by decide) (fun h205 => ?_) (fun h205 => ?_)
                    · exfalso; omega
                    · refine zx_iconst dL_acts_208 ?_
                      refine zx_goto (tgt := 268) dL_acts_209 (by decide) ?_
                      refine zx_iret rfl rfl dL_acts_268 ?_
                      rw [hQ]
                      refine ⟨congrArg (fun z : Int => (Sum.inl (some (zi z)) : Option zV ⊕ String)) ?_, ?_⟩
                      · first | rfl | assumption | omega
                      exact AP_e (aB_1 hu.2 (by omega)) (AP_d (zSame_rf _ _) hr189 (zSame_rf _ _) hz189)
                · refine zy_csHR [zf 9 0, zi (y % 5), zi (1 + (x % 30)), zi (aV mk (y % 5) z), zi (1 + ((x + z) % 9))] (sL_does_addF  hfl hz hB hW (HN_j hN (zSame_rf _ _)) (HBA_j hA (zSame_rf _ _)) (by first | assumption | omega) (by first | assumption | omega) (by first | assumption | omega) (by first | assumption | omega)) dL_acts_189 cw_RL_231 okL_does rfl (Nat.le_of_ble_eq_true rfl) ⟨Nat.le_of_ble_eq_true rfl, Nat.le_of_ble_eq_true rfl, Nat.le_of_ble_eq_true rfl, Nat.le_of_ble_eq_true rfl⟩ (fun τ189 hr189 => ?_)
                  have hz189 : zOK τ189 := hr189.1
                  refine zy_istore [zf 9 0, zi mk, zi u, zi x, zi y, zi z, zi (D 12 0), zi (x % (D 12 0)), zi (y % 5), zi (aV mk (y % 5) z), zi (-103), zu, zu, zu] dL_acts_192 (Nat.le_of_ble_eq_true rfl) (Nat.le_of_ble_eq_true rfl) rfl rfl ?_
                  refine zx_iload dL_acts_194 rfl ?_
                  refine zx_bipush dL_acts_196 rfl ?_
                  refine zx_icmp_ne (tgt := 216) (by first | exact hz189 _ _ | assumption | exact zr_b _ | exact zcmp_r _ _ | exact hzD _ _ | exact zr3 (tS_b hW _) | exact zr3 (lsc_b hW _ _) | exact zr3 (sc_b hW _ _) | exact rkP_zr hW _ | exact scA_zr hW _ _ | exact zr3 (cW_b hW) | exact zr3 (wS_b hW) | exact zr3 (wS_b hWn) | (unfold zr at *; omega)) (by first | exact hz189 _ _ | assumption | exact zr_b _ | exact zcmp_r _ _ | exact hzD _ _ | exact zr3 (tS_b hW _) | exact zr3 (lsc_b hW _ _) | exact zr3 (sc_b hW _ _) | exact rkP_zr hW _ | exact scA_zr hW _ _ | exact zr3 (cW_b hW) | exact zr3 (wS_b hW) | exact zr3 (wS_b hWn) | (unfold zr at *; omega)) dL_acts_198 (by decide) (fun h198 => ?_) (fun h198 => ?_)
                  · exfalso; omega
                  · refine zx_iload dL_acts_201 rfl ?_
                    refine zx_bipush dL_acts_203 rfl ?_
                    refine zx_icmp_ne (tgt := 212) (by first | exact hz189 _ _ | assumption | exact zr_b _ | exact zcmp_r _ _ | exact hzD _ _ | exact zr3 (tS_b hW _) | exact zr3 (lsc_b hW _ _) | exact zr3 (sc_b hW _ _) | exact rkP_zr hW _ | exact scA_zr hW _ _ | exact zr3 (cW_b hW) | exact zr3 (wS_b hW) | exact zr3 (wS_b hWn) | (unfold zr at *; omega)) (by first | exact hz189 _ _ | assumption | exact zr_b _ | exact zcmp_r _ _ | exact hzD _ _ | exact zr3 (tS_b hW _) | exact zr3 (lsc_b hW _ _) | exact zr3 (sc_b hW _ _) | exact rkP_zr hW _ | exact scA_zr hW _ _ | exact zr3 (cW_b hW) | exact zr3 (wS_b hW) | exact zr3 (wS_b hWn) | (unfold zr at *; omega)) dL_acts_205 (by decide) (fun h205 => ?_) (fun h205 => ?_)
                    · exact absurd h205 (by decide)
                    · refine zx_iconst dL_acts_208 ?_
                      refine zx_goto (tgt := 268) dL_acts_209 (by decide) ?_
                      refine zx_iret rfl rfl dL_acts_268 ?_
                      rw [hQ]
                      refine ⟨congrArg (fun z : Int => (Sum.inl (some (zi z)) : Option zV ⊕ String)) ?_, ?_⟩
                      · first | rfl | assumption | omega
                      exact AP_e (aB_0 hu.2 (by omega)) (AP_f hW (zSame_rf _ _) hr189 (zSame_rf _ _) hz189 rfl)
              · refine zx_iload dL_acts_151 rfl ?_
                refine zx_iconst dL_acts_153 ?_
                refine zx_irem (by omega) (by omega) (by omega) (by omega) dL_acts_154 ?_
                refine zy_top (b := aV mk (y % 5) z) ((by unfold aV; rw [if_neg h109, if_neg h122, if_neg h135, if_pos h148])) ?_
                refine zx_goto (tgt := 167) dL_acts_155 (by decide) ?_
                refine zy_istore [zf 9 0, zi mk, zi u, zi x, zi y, zi z, zi (D 12 0), zi (x % (D 12 0)), zi (y % 5), zi (aV mk (y % 5) z), zu, zu, zu, zu] dL_acts_167 (Nat.le_of_ble_eq_true rfl) (Nat.le_of_ble_eq_true rfl) rfl rfl ?_
                refine zx_aloadN dL_acts_169 rfl rfl ?_
                refine zx_iload dL_acts_170 rfl ?_
                refine zx_iconst dL_acts_172 ?_
                refine zx_iloadN dL_acts_173 rfl rfl ?_
                refine zx_bipush dL_acts_174 rfl ?_
                refine zx_irem (by omega) (by omega) (by omega) (by omega) dL_acts_176 ?_
                refine zx_iadd dL_acts_177 ?_
                refine zx_iload dL_acts_178 rfl ?_
                refine zx_iconst dL_acts_180 ?_
                refine zx_iloadN dL_acts_181 rfl rfl ?_
                refine zx_iload dL_acts_182 rfl ?_
                refine zx_iadd dL_acts_184 ?_
                refine zx_bipush dL_acts_185 rfl ?_
                refine zx_irem (by omega) (by omega) (by omega) (by omega) dL_acts_187 ?_
                refine zx_iadd dL_acts_188 ?_
                by_cases hb189 : D 12 0 < 40
                · refine zy_csHR [zf 9 0, zi (y % 5), zi (1 + (x % 30)), zi (aV mk (y % 5) z), zi (1 + ((x + z) % 9))] (sL_does_add  hfl hz hB hW (HN_j hN (zSame_rf _ _)) (HBA_j hA (zSame_rf _ _)) (by first | assumption | omega) (by first | assumption | omega) (by first | assumption | omega) (by first | assumption | omega)) dL_acts_189 cw_RL_231 okL_does rfl (Nat.le_of_ble_eq_true rfl) ⟨Nat.le_of_ble_eq_true rfl, Nat.le_of_ble_eq_true rfl, Nat.le_of_ble_eq_true rfl, Nat.le_of_ble_eq_true rfl⟩ (fun τ189 hr189 => ?_)
                  have hz189 : zOK τ189 := hr189.1
                  have hl := hr189.2.2.2.2.2.2
                  have hWn := hr189.2.2.2.2.2.1
                  have hzDn := hzDof (rfl : bK τ189 = bK τ189) hz189
                  obtain ⟨e12, e14, e15, e17, e18⟩ := ad_post hl (by omega)
                  refine zy_istore [zf 9 0, zi mk, zi u, zi x, zi y, zi z, zi (D 12 0), zi (x % (D 12 0)), zi (y % 5), zi (aV mk (y % 5) z), zi (D 12 0), zu, zu, zu] dL_acts_192 (Nat.le_of_ble_eq_true rfl) (Nat.le_of_ble_eq_true rfl) rfl rfl ?_
                  refine zx_iload dL_acts_194 rfl ?_
                  refine zx_bipush dL_acts_196 rfl ?_
                  refine zx_icmp_ne (tgt := 216) (by first | exact hz189 _ _ | assumption | exact zr_b _ | exact zcmp_r _ _ | exact hzD _ _ | exact zr3 (tS_b hW _) | exact zr3 (lsc_b hW _ _) | exact zr3 (sc_b hW _ _) | exact rkP_zr hW _ | exact scA_zr hW _ _ | exact zr3 (cW_b hW) | exact zr3 (wS_b hW) | exact zr3 (wS_b hWn) | (unfold zr at *; omega)) (by first | exact hz189 _ _ | assumption | exact zr_b _ | exact zcmp_r _ _ | exact hzD _ _ | exact zr3 (tS_b hW _) | exact zr3 (lsc_b hW _ _) | exact zr3 (sc_b hW _ _) | exact rkP_zr hW _ | exact scA_zr hW _ _ | exact zr3 (cW_b hW) | exact zr3 (wS_b hW) | exact zr3 (wS_b hWn) | (unfold zr at *; omega)) dL_acts_198 (by decide) (fun h198 => ?_) (fun h198 => ?_)
                  · refine zx_iload dL_acts_216 rfl ?_
                    refine zx_iload dL_acts_218 rfl ?_
                    refine zx_icmp_ne (tgt := 267) (by first | exact hz189 _ _ | assumption | exact zr_b _ | exact zcmp_r _ _ | exact hzD _ _ | exact zr3 (tS_b hW _) | exact zr3 (lsc_b hW _ _) | exact zr3 (sc_b hW _ _) | exact rkP_zr hW _ | exact scA_zr hW _ _ | exact zr3 (cW_b hW) | exact zr3 (wS_b hW) | exact zr3 (wS_b hWn) | (unfold zr at *; omega)) (by first | exact hz189 _ _ | assumption | exact zr_b _ | exact zcmp_r _ _ | exact hzD _ _ | exact zr3 (tS_b hW _) | exact zr3 (lsc_b hW _ _) | exact zr3 (sc_b hW _ _) | exact rkP_zr hW _ | exact scA_zr hW _ _ | exact zr3 (cW_b hW) | exact zr3 (wS_b hW) | exact zr3 (wS_b hWn) | (unfold zr at *; omega)) dL_acts_220 (by decide) (fun h220 => ?_) (fun h220 => ?_)
                    · exfalso; omega
                    · refine zx_aloadN dL_acts_223 rfl rfl ?_
                      refine zx_iload dL_acts_224 rfl ?_
                      refine zy_cv [zi (D 12 0)] (fX9_isRead  hfl hz189 rfl hr189.2.2.2.2.2.1 (by first | exact hz189 _ _ | assumption | exact zr_b _ | exact zcmp_r _ _ | exact hzD _ _ | exact zr3 (tS_b hW _) | exact zr3 (lsc_b hW _ _) | exact zr3 (sc_b hW _ _) | exact rkP_zr hW _ | exact scA_zr hW _ _ | exact zr3 (cW_b hW) | exact zr3 (wS_b hW) | exact zr3 (wS_b hWn) | (unfold zr at *; omega)) (by first | assumption | omega)) dL_acts_226 (by decide) rfl cw_RL_122 okX9_isRead rfl (Nat.le_of_ble_eq_true rfl) ⟨Nat.le_of_ble_eq_true rfl, Nat.le_of_ble_eq_true rfl, Nat.le_of_ble_eq_true rfl, Nat.le_of_ble_eq_true rfl⟩ ?_
                      refine zx_if_ne (tgt := 267) (by first | exact hz189 _ _ | assumption | exact zr_b _ | exact zcmp_r _ _ | exact hzD _ _ | exact zr3 (tS_b hW _) | exact zr3 (lsc_b hW _ _) | exact zr3 (sc_b hW _ _) | exact rkP_zr hW _ | exact scA_zr hW _ _ | exact zr3 (cW_b hW) | exact zr3 (wS_b hW) | exact zr3 (wS_b hWn) | (unfold zr at *; omega)) dL_acts_229 (by decide) (fun h229 => ?_) (fun h229 => ?_)
                      · exfalso; omega
                      · refine zx_aloadN dL_acts_232 rfl rfl ?_
                        refine zx_iload dL_acts_233 rfl ?_
                        refine zy_cv [zi (D 12 0)] (fX9_isAside  hfl hz189 rfl hr189.2.2.2.2.2.1 (by first | exact hz189 _ _ | assumption | exact zr_b _ | exact zcmp_r _ _ | exact hzD _ _ | exact zr3 (tS_b hW _) | exact zr3 (lsc_b hW _ _) | exact zr3 (sc_b hW _ _) | exact rkP_zr hW _ | exact scA_zr hW _ _ | exact zr3 (cW_b hW) | exact zr3 (wS_b hW) | exact zr3 (wS_b hWn) | (unfold zr at *; omega)) (by first | assumption | omega)) dL_acts_235 (by decide) rfl cw_RL_128 okX9_isAside rfl (Nat.le_of_ble_eq_true rfl) ⟨Nat.le_of_ble_eq_true rfl, Nat.le_of_ble_eq_true rfl, Nat.le_of_ble_eq_true rfl, Nat.le_of_ble_eq_true rfl⟩ ?_
                        refine zx_if_ne (tgt := 267) (by first | exact hz189 _ _ | assumption | exact zr_b _ | exact zcmp_r _ _ | exact hzD _ _ | exact zr3 (tS_b hW _) | exact zr3 (lsc_b hW _ _) | exact zr3 (sc_b hW _ _) | exact rkP_zr hW _ | exact scA_zr hW _ _ | exact zr3 (cW_b hW) | exact zr3 (wS_b hW) | exact zr3 (wS_b hWn) | (unfold zr at *; omega)) dL_acts_238 (by decide) (fun h238 => ?_) (fun h238 => ?_)
                        · exfalso; omega
                        · refine zx_aloadN dL_acts_241 rfl rfl ?_
                          refine zx_iload dL_acts_242 rfl ?_
                          refine zy_cv [zi (D 12 0)] (fX9_kindOf  hfl hz189 rfl hr189.2.2.2.2.2.1 (by first | exact hz189 _ _ | assumption | exact zr_b _ | exact zcmp_r _ _ | exact hzD _ _ | exact zr3 (tS_b hW _) | exact zr3 (lsc_b hW _ _) | exact zr3 (sc_b hW _ _) | exact rkP_zr hW _ | exact scA_zr hW _ _ | exact zr3 (cW_b hW) | exact zr3 (wS_b hW) | exact zr3 (wS_b hWn) | (unfold zr at *; omega)) (by first | assumption | omega)) dL_acts_244 (by decide) rfl cw_RL_109 okX9_kindOf rfl (Nat.le_of_ble_eq_true rfl) ⟨Nat.le_of_ble_eq_true rfl, Nat.le_of_ble_eq_true rfl, Nat.le_of_ble_eq_true rfl, Nat.le_of_ble_eq_true rfl⟩ ?_
                          refine zx_iload dL_acts_247 rfl ?_
                          refine zx_icmp_ne (tgt := 267) (by first | exact hz189 _ _ | assumption | exact zr_b _ | exact zcmp_r _ _ | exact hzD _ _ | exact zr3 (tS_b hW _) | exact zr3 (lsc_b hW _ _) | exact zr3 (sc_b hW _ _) | exact rkP_zr hW _ | exact scA_zr hW _ _ | exact zr3 (cW_b hW) | exact zr3 (wS_b hW) | exact zr3 (wS_b hWn) | (unfold zr at *; omega)) (by first | exact hz189 _ _ | assumption | exact zr_b _ | exact zcmp_r _ _ | exact hzD _ _ | exact zr3 (tS_b hW _) | exact zr3 (lsc_b hW _ _) | exact zr3 (sc_b hW _ _) | exact rkP_zr hW _ | exact scA_zr hW _ _ | exact zr3 (cW_b hW) | exact zr3 (wS_b hW) | exact zr3 (wS_b hWn) | (unfold zr at *; omega)) dL_acts_249 (by decide) (fun h249 => ?_) (fun h249 => ?_)
                          · exfalso; omega
                          · refine zx_aloadN dL_acts_252 rfl rfl ?_
                            refine zx_iload dL_acts_253 rfl ?_
                            refine zy_cv [zi (D 12 0)] (fX9_valueOf  hfl hz189 rfl hr189.2.2.2.2.2.1 (by first | exact hz189 _ _ | assumption | exact zr_b _ | exact zcmp_r _ _ | exact hzD _ _ | exact zr3 (tS_b hW _) | exact zr3 (lsc_b hW _ _) | exact zr3 (sc_b hW _ _) | exact rkP_zr hW _ | exact scA_zr hW _ _ | exact zr3 (cW_b hW) | exact zr3 (wS_b hW) | exact zr3 (wS_b hWn) | (unfold zr at *; omega)) (by first | assumption | omega)) dL_acts_255 (by decide) rfl cw_RL_114 okX9_valueOf rfl (Nat.le_of_ble_eq_true rfl) ⟨Nat.le_of_ble_eq_true rfl, Nat.le_of_ble_eq_true rfl, Nat.le_of_ble_eq_true rfl, Nat.le_of_ble_eq_true rfl⟩ ?_
                            refine zx_iload dL_acts_258 rfl ?_
                            refine zx_icmp_ne (tgt := 267) (by first | exact hz189 _ _ | assumption | exact zr_b _ | exact zcmp_r _ _ | exact hzD _ _ | exact zr3 (tS_b hW _) | exact zr3 (lsc_b hW _ _) | exact zr3 (sc_b hW _ _) | exact rkP_zr hW _ | exact scA_zr hW _ _ | exact zr3 (cW_b hW) | exact zr3 (wS_b hW) | exact zr3 (wS_b hWn) | (unfold zr at *; omega)) (by first | exact hz189 _ _ | assumption | exact zr_b _ | exact zcmp_r _ _ | exact hzD _ _ | exact zr3 (tS_b hW _) | exact zr3 (lsc_b hW _ _) | exact zr3 (sc_b hW _ _) | exact rkP_zr hW _ | exact scA_zr hW _ _ | exact zr3 (cW_b hW) | exact zr3 (wS_b hW) | exact zr3 (wS_b hWn) | (unfold zr at *; omega)) dL_acts_260 (by decide) (fun h260 => ?_) (fun h260 => ?_)
                            · exfalso; omega
                            · refine zx_iconst dL_acts_263 ?_
                              refine zx_goto (tgt := 268) dL_acts_264 (by decide) ?_
                              refine zx_iret rfl rfl dL_acts_268 ?_
                              rw [hQ]
                              refine ⟨congrArg (fun z : Int => (Sum.inl (some (zi z)) : Option zV ⊕ String)) ?_, ?_⟩
                              · first | rfl | assumption | omega
                              exact AP_e (aB_1 hu.2 (by omega)) (AP_d (zSame_rf _ _) hr189 (zSame_rf _ _) hz189)
                  · refine zx_iload dL_acts_201 rfl ?_
                    refine zx_bipush dL_acts_203 rfl ?_
                    refine zx_icmp_ne (tgt := 212) (by first | exact hz189 _ _ | assumption | exact zr_b _ | exact zcmp_r _ _ | exact hzD _ _ | exact zr3 (tS_b hW _) | exact zr3 (lsc_b hW _ _) | exact zr3 (sc_b hW _ _) | exact rkP_zr hW _ | exact scA_zr hW _ _ | exact zr3 (cW_b hW) | exact zr3 (wS_b hW) | exact zr3 (wS_b hWn) | (unfold zr at *; omega)) (by first | exact hz189 _ _ | assumption | exact zr_b _ | exact zcmp_r _ _ | exact hzD _ _ | exact zr3 (tS_b hW _) | exact zr3 (lsc_b hW _ _) | exact zr3 (sc_b hW _ _) | exact rkP_zr hW _ | exact scA_zr hW _ _ | exact zr3 (cW_b hW) | exact zr3 (wS_b hW) | exact zr3 (wS_b hWn) | (unfold zr at *; omega)) dL_acts_205 (by decide) (fun h205 => ?_) (fun h205 => ?_)
                    · exfalso; omega
                    · refine zx_iconst dL_acts_208 ?_
                      refine zx_goto (tgt := 268) dL_acts_209 (by decide) ?_
                      refine zx_iret rfl rfl dL_acts_268 ?_
                      rw [hQ]
                      refine ⟨congrArg (fun z : Int => (Sum.inl (some (zi z)) : Option zV ⊕ String)) ?_, ?_⟩
                      · first | rfl | assumption | omega
                      exact AP_e (aB_1 hu.2 (by omega)) (AP_d (zSame_rf _ _) hr189 (zSame_rf _ _) hz189)
                · refine zy_csHR [zf 9 0, zi (y % 5), zi (1 + (x % 30)), zi (aV mk (y % 5) z), zi (1 + ((x + z) % 9))] (sL_does_addF  hfl hz hB hW (HN_j hN (zSame_rf _ _)) (HBA_j hA (zSame_rf _ _)) (by first | assumption | omega) (by first | assumption | omega) (by first | assumption | omega) (by first | assumption | omega)) dL_acts_189 cw_RL_231 okL_does rfl (Nat.le_of_ble_eq_true rfl) ⟨Nat.le_of_ble_eq_true rfl, Nat.le_of_ble_eq_true rfl, Nat.le_of_ble_eq_true rfl, Nat.le_of_ble_eq_true rfl⟩ (fun τ189 hr189 => ?_)
                  have hz189 : zOK τ189 := hr189.1
                  refine zy_istore [zf 9 0, zi mk, zi u, zi x, zi y, zi z, zi (D 12 0), zi (x % (D 12 0)), zi (y % 5), zi (aV mk (y % 5) z), zi (-103), zu, zu, zu] dL_acts_192 (Nat.le_of_ble_eq_true rfl) (Nat.le_of_ble_eq_true rfl) rfl rfl ?_
                  refine zx_iload dL_acts_194 rfl ?_
                  refine zx_bipush dL_acts_196 rfl ?_
                  refine zx_icmp_ne (tgt := 216) (by first | exact hz189 _ _ | assumption | exact zr_b _ | exact zcmp_r _ _ | exact hzD _ _ | exact zr3 (tS_b hW _) | exact zr3 (lsc_b hW _ _) | exact zr3 (sc_b hW _ _) | exact rkP_zr hW _ | exact scA_zr hW _ _ | exact zr3 (cW_b hW) | exact zr3 (wS_b hW) | exact zr3 (wS_b hWn) | (unfold zr at *; omega)) (by first | exact hz189 _ _ | assumption | exact zr_b _ | exact zcmp_r _ _ | exact hzD _ _ | exact zr3 (tS_b hW _) | exact zr3 (lsc_b hW _ _) | exact zr3 (sc_b hW _ _) | exact rkP_zr hW _ | exact scA_zr hW _ _ | exact zr3 (cW_b hW) | exact zr3 (wS_b hW) | exact zr3 (wS_b hWn) | (unfold zr at *; omega)) dL_acts_198 (by decide) (fun h198 => ?_) (fun h198 => ?_)
                  · exfalso; omega
                  · refine zx_iload dL_acts_201 rfl ?_
                    refine zx_bipush dL_acts_203 rfl ?_
                    refine zx_icmp_ne (tgt := 212) (by first | exact hz189 _ _ | assumption | exact zr_b _ | exact zcmp_r _ _ | exact hzD _ _ | exact zr3 (tS_b hW _) | exact zr3 (lsc_b hW _ _) | exact zr3 (sc_b hW _ _) | exact rkP_zr hW _ | exact scA_zr hW _ _ | exact zr3 (cW_b hW) | exact zr3 (wS_b hW) | exact zr3 (wS_b hWn) | (unfold zr at *; omega)) (by first | exact hz189 _ _ | assumption | exact zr_b _ | exact zcmp_r _ _ | exact hzD _ _ | exact zr3 (tS_b hW _) | exact zr3 (lsc_b hW _ _) | exact zr3 (sc_b hW _ _) | exact rkP_zr hW _ | exact scA_zr hW _ _ | exact zr3 (cW_b hW) | exact zr3 (wS_b hW) | exact zr3 (wS_b hWn) | (unfold zr at *; omega)) dL_acts_205 (by decide) (fun h205 => ?_) (fun h205 => ?_)
                    · exact absurd h205 (by decide)
                    · refine zx_iconst dL_acts_208 ?_
                      refine zx_goto (tgt := 268) dL_acts_209 (by decide) ?_
                      refine zx_iret rfl rfl dL_acts_268 ?_
                      rw [hQ]
                      refine ⟨congrArg (fun z : Int => (Sum.inl (some (zi z)) : Option zV ⊕ String)) ?_, ?_⟩
                      · first | rfl | assumption | omega
                      exact AP_e (aB_0 hu.2 (by omega)) (AP_f hW (zSame_rf _ _) hr189 (zSame_rf _ _) hz189 rfl)
            · refine zx_iload dL_acts_138 rfl ?_
              refine zx_iloadN dL_acts_140 rfl rfl ?_
              refine zx_irem (by omega) (by omega) (by omega) (by omega) dL_acts_141 ?_
              refine zy_top (b := aV mk (y % 5) z) ((by unfold aV; rw [if_neg h109, if_neg h122, if_pos h135])) ?_
              refine zx_goto (tgt := 167) dL_acts_142 (by decide) ?_
              refine zy_istore [zf 9 0, zi mk, zi u, zi x, zi y, zi z, zi (D 12 0), zi (x % (D 12 0)), zi (y % 5), zi (aV mk (y % 5) z), zu, zu, zu, zu] dL_acts_167 (Nat.le_of_ble_eq_true rfl) (Nat.le_of_ble_eq_true rfl) rfl rfl ?_
              refine zx_aloadN dL_acts_169 rfl rfl ?_
              refine zx_iload dL_acts_170 rfl ?_
              refine zx_iconst dL_acts_172 ?_
              refine zx_iloadN dL_acts_173 rfl rfl ?_
              refine zx_bipush dL_acts_174 rfl ?_
              refine zx_irem (by omega) (by omega) (by omega) (by omega) dL_acts_176 ?_
              refine zx_iadd dL_acts_177 ?_
              refine zx_iload dL_acts_178 rfl ?_
              refine zx_iconst dL_acts_180 ?_
              refine zx_iloadN dL_acts_181 rfl rfl ?_
              refine zx_iload dL_acts_182 rfl ?_
              refine zx_iadd dL_acts_184 ?_
              refine zx_bipush dL_acts_185 rfl ?_
              refine zx_irem (by omega) (by omega) (by omega) (by omega) dL_acts_187 ?_
              refine zx_iadd dL_acts_188 ?_
              by_cases hb189 : D 12 0 < 40
              · refine zy_csHR [zf 9 0, zi (y % 5), zi (1 + (x % 30)), zi (aV mk (y % 5) z), zi (1 + ((x + z) % 9))] (sL_does_add  hfl hz hB hW (HN_j hN (zSame_rf _ _)) (HBA_j hA (zSame_rf _ _)) (by first | assumption | omega) (by first | assumption | omega) (by first | assumption | omega) (by first | assumption | omega)) dL_acts_189 cw_RL_231 okL_does rfl (Nat.le_of_ble_eq_true rfl) ⟨Nat.le_of_ble_eq_true rfl, Nat.le_of_ble_eq_true rfl, Nat.le_of_ble_eq_true rfl, Nat.le_of_ble_eq_true rfl⟩ (fun τ189 hr189 => ?_)
                have hz189 : zOK τ189 := hr189.1
                have hl := hr189.2.2.2.2.2.2
                have hWn := hr189.2.2.2.2.2.1
                have hzDn := hzDof (rfl : bK τ189 = bK τ189) hz189
                obtain ⟨e12, e14, e15, e17, e18⟩ := ad_post hl (by omega)
                refine zy_istore [zf 9 0, zi mk, zi u, zi x, zi y, zi z, zi (D 12 0), zi (x % (D 12 0)), zi (y % 5), zi (aV mk (y % 5) z), zi (D 12 0), zu, zu, zu] dL_acts_192 (Nat.le_of_ble_eq_true rfl) (Nat.le_of_ble_eq_true rfl) rfl rfl ?_
                refine zx_iload dL_acts_194 rfl ?_
                refine zx_bipush dL_acts_196 rfl ?_
                refine zx_icmp_ne (tgt := 216) (by first | exact hz189 _ _ | assumption | exact zr_b _ | exact zcmp_r _ _ | exact hzD _ _ | exact zr3 (tS_b hW _) | exact zr3 (lsc_b hW _ _) | exact zr3 (sc_b hW _ _) | exact rkP_zr hW _ | exact scA_zr hW _ _ | exact zr3 (cW_b hW) | exact zr3 (wS_b hW) | exact zr3 (wS_b hWn) | (unfold zr at *; omega)) (by first | exact hz189 _ _ | assumption | exact zr_b _ | exact zcmp_r _ _ | exact hzD _ _ | exact zr3 (tS_b hW _) | exact zr3 (lsc_b hW _ _) | exact zr3 (sc_b hW _ _) | exact rkP_zr hW _ | exact scA_zr hW _ _ | exact zr3 (cW_b hW) | exact zr3 (wS_b hW) | exact zr3 (wS_b hWn) | (unfold zr at *; omega)) dL_acts_198 (by decide) (fun h198 => ?_) (fun h198 => ?_)
                · refine zx_iload dL_acts_216 rfl ?_
                  refine zx_iload dL_acts_218 rfl ?_
                  refine zx_icmp_ne (tgt := 267) (by first | exact hz189 _ _ | assumption | exact zr_b _ | exact zcmp_r _ _ | exact hzD _ _ | exact zr3 (tS_b hW _) | exact zr3 (lsc_b hW _ _) | exact zr3 (sc_b hW _ _) | exact rkP_zr hW _ | exact scA_zr hW _ _ | exact zr3 (cW_b hW) | exact zr3 (wS_b hW) | exact zr3 (wS_b hWn) | (unfold zr at *; omega)) (by first | exact hz189 _ _ | assumption | exact zr_b _ | exact zcmp_r _ _ | exact hzD _ _ | exact zr3 (tS_b hW _) | exact zr3 (lsc_b hW _ _) | exact zr3 (sc_b hW _ _) | exact rkP_zr hW _ | exact scA_zr hW _ _ | exact zr3 (cW_b hW) | exact zr3 (wS_b hW) | exact zr3 (wS_b hWn) | (unfold zr at *; omega)) dL_acts_220 (by decide) (fun h220 => ?_) (fun h220 => ?_)
                  · exfalso; omega
                  · refine zx_aloadN dL_acts_223 rfl rfl ?_
                    refine zx_iload dL_acts_224 rfl ?_
                    refine zy_cv [zi (D 12 0)] (fX9_isRead  hfl hz189 rfl hr189.2.2.2.2.2.1 (by first | exact hz189 _ _ | assumption | exact zr_b _ | exact zcmp_r _ _ | exact hzD _ _ | exact zr3 (tS_b hW _) | exact zr3 (lsc_b hW _ _) | exact zr3 (sc_b hW _ _) | exact rkP_zr hW _ | exact scA_zr hW _ _ | exact zr3 (cW_b hW) | exact zr3 (wS_b hW) | exact zr3 (wS_b hWn) | (unfold zr at *; omega)) (by first | assumption | omega)) dL_acts_226 (by decide) rfl cw_RL_122 okX9_isRead rfl (Nat.le_of_ble_eq_true rfl) ⟨Nat.le_of_ble_eq_true rfl, Nat.le_of_ble_eq_true rfl, Nat.le_of_ble_eq_true rfl, Nat.le_of_ble_eq_true rfl⟩ ?_
                    refine zx_if_ne (tgt := 267) (by first | exact hz189 _ _ | assumption | exact zr_b _ | exact zcmp_r _ _ | exact hzD _ _ | exact zr3 (tS_b hW _) | exact zr3 (lsc_b hW _ _) | exact zr3 (sc_b hW _ _) | exact rkP_zr hW _ | exact scA_zr hW _ _ | exact zr3 (cW_b hW) | exact zr3 (wS_b hW) | exact zr3 (wS_b hWn) | (unfold zr at *; omega)) dL_acts_229 (by decide) (fun h229 => ?_) (fun h229 => ?_)
                    · exfalso; omega
                    · refine zx_aloadN dL_acts_232 rfl rfl ?_
                      refine zx_iload dL_acts_233 rfl ?_
                      refine zy_cv [zi (D 12 0)] (fX9_isAside  hfl hz189 rfl hr189.2.2.2.2.2.1 (by first | exact hz189 _ _ | assumption | exact zr_b _ | exact zcmp_r _ _ | exact hzD _ _ | exact zr3 (tS_b hW _) | exact zr3 (lsc_b hW _ _) | exact zr3 (sc_b hW _ _) | exact rkP_zr hW _ | exact scA_zr hW _ _ | exact zr3 (cW_b hW) | exact zr3 (wS_b hW) | exact zr3 (wS_b hWn) | (unfold zr at *; omega)) (by first | assumption | omega)) dL_acts_235 (by decide) rfl cw_RL_128 okX9_isAside rfl (Nat.le_of_ble_eq_true rfl) ⟨Nat.le_of_ble_eq_true rfl, Nat.le_of_ble_eq_true rfl, Nat.le_of_ble_eq_true rfl, Nat.le_of_ble_eq_true rfl⟩ ?_
                      refine zx_if_ne (tgt := 267) (by first | exact hz189 _ _ | assumption | exact zr_b _ | exact zcmp_r _ _ | exact hzD _ _ | exact zr3 (tS_b hW _) | exact zr3 (lsc_b hW _ _) | exact zr3 (sc_b hW _ _) | exact rkP_zr hW _ | exact scA_zr hW _ _ | exact zr3 (cW_b hW) | exact zr3 (wS_b hW) | exact zr3 (wS_b hWn) | (unfold zr at *; omega)) dL_acts_238 (by decide) (fun h238 => ?_) (fun h238 => ?_)
                      · exfalso; omega
                      · refine zx_aloadN dL_acts_241 rfl rfl ?_
                        refine zx_iload dL_acts_242 rfl ?_
                        refine zy_cv [zi (D 12 0)] (fX9_kindOf  hfl hz189 rfl hr189.2.2.2.2.2.1 (by first | exact hz189 _ _ | assumption | exact zr_b _ | exact zcmp_r _ _ | exact hzD _ _ | exact zr3 (tS_b hW _) | exact zr3 (lsc_b hW _ _) | exact zr3 (sc_b hW _ _) | exact rkP_zr hW _ | exact scA_zr hW _ _ | exact zr3 (cW_b hW) | exact zr3 (wS_b hW) | exact zr3 (wS_b hWn) | (unfold zr at *; omega)) (by first | assumption | omega)) dL_acts_244 (by decide) rfl cw_RL_109 okX9_kindOf rfl (Nat.le_of_ble_eq_true rfl) ⟨Nat.le_of_ble_eq_true rfl, Nat.le_of_ble_eq_true rfl, Nat.le_of_ble_eq_true rfl, Nat.le_of_ble_eq_true rfl⟩ ?_
                        refine zx_iload dL_acts_247 rfl ?_
                        refine zx_icmp_ne (tgt := 267) (by first | exact hz189 _ _ | assumption | exact zr_b _ | exact zcmp_r _ _ | exact hzD _ _ | exact zr3 (tS_b hW _) | exact zr3 (lsc_b hW _ _) | exact zr3 (sc_b hW _ _) | exact rkP_zr hW _ | exact scA_zr hW _ _ | exact zr3 (cW_b hW) | exact zr3 (wS_b hW) | exact zr3 (wS_b hWn) | (unfold zr at *; omega)) (by first | exact hz189 _ _ | assumption | exact zr_b _ | exact zcmp_r _ _ | exact hzD _ _ | exact zr3 (tS_b hW _) | exact zr3 (lsc_b hW _ _) | exact zr3 (sc_b hW _ _) | exact rkP_zr hW _ | exact scA_zr hW _ _ | exact zr3 (cW_b hW) | exact zr3 (wS_b hW) | exact zr3 (wS_b hWn) | (unfold zr at *; omega)) dL_acts_249 (by decide) (fun h249 => ?_) (fun h249 => ?_)
                        · exfalso; omega
                        · refine zx_aloadN dL_acts_252 rfl rfl ?_
                          refine zx_iload dL_acts_253 rfl ?_
                          refine zy_cv [zi (D 12 0)] (fX9_valueOf  hfl hz189 rfl hr189.2.2.2.2.2.1 (by first | exact hz189 _ _ | assumption | exact zr_b _ | exact zcmp_r _ _ | exact hzD _ _ | exact zr3 (tS_b hW _) | exact zr3 (lsc_b hW _ _) | exact zr3 (sc_b hW _ _) | exact rkP_zr hW _ | exact scA_zr hW _ _ | exact zr3 (cW_b hW) | exact zr3 (wS_b hW) | exact zr3 (wS_b hWn) | (unfold zr at *; omega)) (by first | assumption | omega)) dL_acts_255 (by decide) rfl cw_RL_114 okX9_valueOf rfl (Nat.le_of_ble_eq_true rfl) ⟨Nat.le_of_ble_eq_true rfl, Nat.le_of_ble_eq_true rfl, Nat.le_of_ble_eq_true rfl, Nat.le_of_ble_eq_true rfl⟩ ?_
                          refine zx_iload dL_acts_258 rfl ?_
                          refine zx_icmp_ne (tgt := 267) (by first | exact hz189 _ _ | assumption | exact zr_b _ | exact zcmp_r _ _ | exact hzD _ _ | exact zr3 (tS_b hW _) | exact zr3 (lsc_b hW _ _) | exact zr3 (sc_b hW _ _) | exact rkP_zr hW _ | exact scA_zr hW _ _ | exact zr3 (cW_b hW) | exact zr3 (wS_b hW) | exact zr3 (wS_b hWn) | (unfold zr at *; omega)) (by first | exact hz189 _ _ | assumption | exact zr_b _ | exact zcmp_r _ _ | exact hzD _ _ | exact zr3 (tS_b hW _) | exact zr3 (lsc_b hW _ _) | exact zr3 (sc_b hW _ _) | exact rkP_zr hW _ | exact scA_zr hW _ _ | exact zr3 (cW_b hW) | exact zr3 (wS_b hW) | exact zr3 (wS_b hWn) | (unfold zr at *; omega)) dL_acts_260 (by decide) (fun h260 => ?_) (fun h260 => ?_)
                          · exfalso; omega
                          · refine zx_iconst dL_acts_263 ?_
                            refine zx_goto (tgt := 268) dL_acts_264 (by decide) ?_
                            refine zx_iret rfl rfl dL_acts_268 ?_
                            rw [hQ]
                            refine ⟨congrArg (fun z : Int => (Sum.inl (some (zi z)) : Option zV ⊕ String)) ?_, ?_⟩
                            · first | rfl | assumption | omega
                            exact AP_e (aB_1 hu.2 (by omega)) (AP_d (zSame_rf _ _) hr189 (zSame_rf _ _) hz189)
                · refine zx_iload dL_acts_201 rfl ?_
                  refine zx_bipush dL_acts_203 rfl ?_
                  refine zx_icmp_ne (tgt := 212) (by first | exact hz189 _ _ | assumption | exact zr_b _ | exact zcmp_r _ _ | exact hzD _ _ | exact zr3 (tS_b hW _) | exact zr3 (lsc_b hW _ _) | exact zr3 (sc_b hW _ _) | exact rkP_zr hW _ | exact scA_zr hW _ _ | exact zr3 (cW_b hW) | exact zr3 (wS_b hW) | exact zr3 (wS_b hWn) | (unfold zr at *; omega)) (by first | exact hz189 _ _ | assumption | exact zr_b _ | exact zcmp_r _ _ | exact hzD _ _ | exact zr3 (tS_b hW _) | exact zr3 (lsc_b hW _ _) | exact zr3 (sc_b hW _ _) | exact rkP_zr hW _ | exact scA_zr hW _ _ | exact zr3 (cW_b hW) | exact zr3 (wS_b hW) | exact zr3 (wS_b hWn) | (unfold zr at *; omega)) dL_acts_205 (by decide) (fun h205 => ?_) (fun h205 => ?_)
                  · exfalso; omega
                  · refine zx_iconst dL_acts_208 ?_
                    refine zx_goto (tgt := 268) dL_acts_209 (by decide) ?_
                    refine zx_iret rfl rfl dL_acts_268 ?_
                    rw [hQ]
                    refine ⟨congrArg (fun z : Int => (Sum.inl (some (zi z)) : Option zV ⊕ String)) ?_, ?_⟩
                    · first | rfl | assumption | omega
                    exact AP_e (aB_1 hu.2 (by omega)) (AP_d (zSame_rf _ _) hr189 (zSame_rf _ _) hz189)
              · refine zy_csHR [zf 9 0, zi (y % 5), zi (1 + (x % 30)), zi (aV mk (y % 5) z), zi (1 + ((x + z) % 9))] (sL_does_addF  hfl hz hB hW (HN_j hN (zSame_rf _ _)) (HBA_j hA (zSame_rf _ _)) (by first | assumption | omega) (by first | assumption | omega) (by first | assumption | omega) (by first | assumption | omega)) dL_acts_189 cw_RL_231 okL_does rfl (Nat.le_of_ble_eq_true rfl) ⟨Nat.le_of_ble_eq_true rfl, Nat.le_of_ble_eq_true rfl, Nat.le_of_ble_eq_true rfl, Nat.le_of_ble_eq_true rfl⟩ (fun τ189 hr189 => ?_)
                have hz189 : zOK τ189 := hr189.1
                refine zy_istore [zf 9 0, zi mk, zi u, zi x, zi y, zi z, zi (D 12 0), zi (x % (D 12 0)), zi (y % 5), zi (aV mk (y % 5) z), zi (-103), zu, zu, zu] dL_acts_192 (Nat.le_of_ble_eq_true rfl) (Nat.le_of_ble_eq_true rfl) rfl rfl ?_
                refine zx_iload dL_acts_194 rfl ?_
                refine zx_bipush dL_acts_196 rfl ?_
                refine zx_icmp_ne (tgt := 216) (by first | exact hz189 _ _ | assumption | exact zr_b _ | exact zcmp_r _ _ | exact hzD _ _ | exact zr3 (tS_b hW _) | exact zr3 (lsc_b hW _ _) | exact zr3 (sc_b hW _ _) | exact rkP_zr hW _ | exact scA_zr hW _ _ | exact zr3 (cW_b hW) | exact zr3 (wS_b hW) | exact zr3 (wS_b hWn) | (unfold zr at *; omega)) (by first | exact hz189 _ _ | assumption | exact zr_b _ | exact zcmp_r _ _ | exact hzD _ _ | exact zr3 (tS_b hW _) | exact zr3 (lsc_b hW _ _) | exact zr3 (sc_b hW _ _) | exact rkP_zr hW _ | exact scA_zr hW _ _ | exact zr3 (cW_b hW) | exact zr3 (wS_b hW) | exact zr3 (wS_b hWn) | (unfold zr at *; omega)) dL_acts_198 (by decide) (fun h198 => ?_) (fun h198 => ?_)
                · exfalso; omega
                · refine zx_iload dL_acts_201 rfl ?_
                  refine zx_bipush dL_acts_203 rfl ?_
                  refine zx_icmp_ne (tgt := 212) (by first | exact hz189 _ _ | assumption | exact zr_b _ | exact zcmp_r _ _ | exact hzD _ _ | exact zr3 (tS_b hW _) | exact zr3 (lsc_b hW _ _) | exact zr3 (sc_b hW _ _) | exact rkP_zr hW _ | exact scA_zr hW _ _ | exact zr3 (cW_b hW) | exact zr3 (wS_b hW) | exact zr3 (wS_b hWn) | (unfold zr at *; omega)) (by first | exact hz189 _ _ | assumption | exact zr_b _ | exact zcmp_r _ _ | exact hzD _ _ | exact zr3 (tS_b hW _) | exact zr3 (lsc_b hW _ _) | exact zr3 (sc_b hW _ _) | exact rkP_zr hW _ | exact scA_zr hW _ _ | exact zr3 (cW_b hW) | exact zr3 (wS_b hW) | exact zr3 (wS_b hWn) | (unfold zr at *; omega)) dL_acts_205 (by decide) (fun h205 => ?_) (fun h205 => ?_)
                  · exact absurd h205 (by decide)
                  · refine zx_iconst dL_acts_208 ?_
                    refine zx_goto (tgt := 268) dL_acts_209 (by decide) ?_
                    refine zx_iret rfl rfl dL_acts_268 ?_
                    rw [hQ]
                    refine ⟨congrArg (fun z : Int => (Sum.inl (some (zi z)) : Option zV ⊕ String)) ?_, ?_⟩
                    · first | rfl | assumption | omega
                    exact AP_e (aB_0 hu.2 (by omega)) (AP_f hW (zSame_rf _ _) hr189 (zSame_rf _ _) hz189 rfl)
          · refine zx_iload dL_acts_125 rfl ?_
            refine zx_iconst dL_acts_127 ?_
            refine zx_irem (by omega) (by omega) (by omega) (by omega) dL_acts_128 ?_
            refine zy_top (b := aV mk (y % 5) z) ((by unfold aV; rw [if_neg h109, if_pos h122])) ?_
            refine zx_goto (tgt := 167) dL_acts_129 (by decide) ?_
            refine zy_istore [zf 9 0, zi mk, zi u, zi x, zi y, zi z, zi (D 12 0), zi (x % (D 12 0)), zi (y % 5), zi (aV mk (y % 5) z), zu, zu, zu, zu] dL_acts_167 (Nat.le_of_ble_eq_true rfl) (Nat.le_of_ble_eq_true rfl) rfl rfl ?_
            refine zx_aloadN dL_acts_169 rfl rfl ?_
            refine zx_iload dL_acts_170 rfl ?_
            refine zx_iconst dL_acts_172 ?_
            refine zx_iloadN dL_acts_173 rfl rfl ?_
            refine zx_bipush dL_acts_174 rfl ?_
            refine zx_irem (by omega) (by omega) (by omega) (by omega) dL_acts_176 ?_
            refine zx_iadd dL_acts_177 ?_
            refine zx_iload dL_acts_178 rfl ?_
            refine zx_iconst dL_acts_180 ?_
            refine zx_iloadN dL_acts_181 rfl rfl ?_
            refine zx_iload dL_acts_182 rfl ?_
            refine zx_iadd dL_acts_184 ?_
            refine zx_bipush dL_acts_185 rfl ?_
            refine zx_irem (by omega) (by omega) (by omega) (by omega) dL_acts_187 ?_
            refine zx_iadd dL_acts_188 ?_
            by_cases hb189 : D 12 0 < 40
            · refine zy_csHR [zf 9 0, zi (y % 5), zi (1 + (x % 30)), zi (aV mk (y % 5) z), zi (1 + ((x + z) % 9))] (sL_does_add  hfl hz hB hW (HN_j hN (zSame_rf _ _)) (HBA_j hA (zSame_rf _ _)) (by first | assumption | omega) (by first | assumption | omega) (by first | assumption | omega) (by first | assumption | omega)) dL_acts_189 cw_RL_231 okL_does rfl (Nat.le_of_ble_eq_true rfl) ⟨Nat.le_of_ble_eq_true rfl, Nat.le_of_ble_eq_true rfl, Nat.le_of_ble_eq_true rfl, Nat.le_of_ble_eq_true rfl⟩ (fun τ189 hr189 => ?_)
              have hz189 : zOK τ189 := hr189.1
              have hl := hr189.2.2.2.2.2.2
              have hWn := hr189.2.2.2.2.2.1
              have hzDn := hzDof (rfl : bK τ189 = bK τ189) hz189
              obtain ⟨e12, e14, e15, e17, e18⟩ := ad_post hl (by omega)
              refine zy_istore [zf 9 0, zi mk, zi u, zi x, zi y, zi z, zi (D 12 0), zi (x % (D 12 0)), zi (y % 5), zi (aV mk (y % 5) z), zi (D 12 0), zu, zu, zu] dL_acts_192 (Nat.le_of_ble_eq_true rfl) (Nat.le_of_ble_eq_true rfl) rfl rfl ?_
              refine zx_iload dL_acts_194 rfl ?_
              refine zx_bipush dL_acts_196 rfl ?_
              refine zx_icmp_ne (tgt := 216) (by first | exact hz189 _ _ | assumption | exact zr_b _ | exact zcmp_r _ _ | exact hzD _ _ | exact zr3 (tS_b hW _) | exact zr3 (lsc_b hW _ _) | exact zr3 (sc_b hW _ _) | exact rkP_zr hW _ | exact scA_zr hW _ _ | exact zr3 (cW_b hW) | exact zr3 (wS_b hW) | exact zr3 (wS_b hWn) | (unfold zr at *; omega)) (by first | exact hz189 _ _ | assumption | exact zr_b _ | exact zcmp_r _ _ | exact hzD _ _ | exact zr3 (tS_b hW _) | exact zr3 (lsc_b hW _ _) | exact zr3 (sc_b hW _ _) | exact rkP_zr hW _ | exact scA_zr hW _ _ | exact zr3 (cW_b hW) | exact zr3 (wS_b hW) | exact zr3 (wS_b hWn) | (unfold zr at *; omega)) dL_acts_198 (by decide) (fun h198 => ?_) (fun h198 => ?_)
              · refine zx_iload dL_acts_216 rfl ?_
                refine zx_iload dL_acts_218 rfl ?_
                refine zx_icmp_ne (tgt := 267) (by first | exact hz189 _ _ | assumption | exact zr_b _ | exact zcmp_r _ _ | exact hzD _ _ | exact zr3 (tS_b hW _) | exact zr3 (lsc_b hW _ _) | exact zr3 (sc_b hW _ _) | exact rkP_zr hW _ | exact scA_zr hW _ _ | exact zr3 (cW_b hW) | exact zr3 (wS_b hW) | exact zr3 (wS_b hWn) | (unfold zr at *; omega)) (by first | exact hz189 _ _ | assumption | exact zr_b _ | exact zcmp_r _ _ | exact hzD _ _ | exact zr3 (tS_b hW _) | exact zr3 (lsc_b hW _ _) | exact zr3 (sc_b hW _ _) | exact rkP_zr hW _ | exact scA_zr hW _ _ | exact zr3 (cW_b hW) | exact zr3 (wS_b hW) | exact zr3 (wS_b hWn) | (unfold zr at *; omega)) dL_acts_220 (by decide) (fun h220 => ?_) (fun h220 => ?_)
                · exfalso; omega
                · refine zx_aloadN dL_acts_223 rfl rfl ?_
                  refine zx_iload dL_acts_224 rfl ?_
                  refine zy_cv [zi (D 12 0)] (fX9_isRead  hfl hz189 rfl hr189.2.2.2.2.2.1 (by first | exact hz189 _ _ | assumption | exact zr_b _ | exact zcmp_r _ _ | exact hzD _ _ | exact zr3 (tS_b hW _) | exact zr3 (lsc_b hW _ _) | exact zr3 (sc_b hW _ _) | exact rkP_zr hW _ | exact scA_zr hW _ _ | exact zr3 (cW_b hW) | exact zr3 (wS_b hW) | exact zr3 (wS_b hWn) | (unfold zr at *; omega)) (by first | assumption | omega)) dL_acts_226 (by decide) rfl cw_RL_122 okX9_isRead rfl (Nat.le_of_ble_eq_true rfl) ⟨Nat.le_of_ble_eq_true rfl, Nat.le_of_ble_eq_true rfl, Nat.le_of_ble_eq_true rfl, Nat.le_of_ble_eq_true rfl⟩ ?_
                  refine zx_if_ne (tgt := 267) (by first | exact hz189 _ _ | assumption | exact zr_b _ | exact zcmp_r _ _ | exact hzD _ _ | exact zr3 (tS_b hW _) | exact zr3 (lsc_b hW _ _) | exact zr3 (sc_b hW _ _) | exact rkP_zr hW _ | exact scA_zr hW _ _ | exact zr3 (cW_b hW) | exact zr3 (wS_b hW) | exact zr3 (wS_b hWn) | (unfold zr at *; omega)) dL_acts_229 (by decide) (fun h229 => ?_) (fun h229 => ?_)
                  · exfalso; omega
                  · refine zx_aloadN dL_acts_232 rfl rfl ?_
                    refine zx_iload dL_acts_233 rfl ?_
                    refine zy_cv [zi (D 12 0)] (fX9_isAside  hfl hz189 rfl hr189.2.2.2.2.2.1 (by first | exact hz189 _ _ | assumption | exact zr_b _ | exact zcmp_r _ _ | exact hzD _ _ | exact zr3 (tS_b hW _) | exact zr3 (lsc_b hW _ _) | exact zr3 (sc_b hW _ _) | exact rkP_zr hW _ | exact scA_zr hW _ _ | exact zr3 (cW_b hW) | exact zr3 (wS_b hW) | exact zr3 (wS_b hWn) | (unfold zr at *; omega)) (by first | assumption | omega)) dL_acts_235 (by decide) rfl cw_RL_128 okX9_isAside rfl (Nat.le_of_ble_eq_true rfl) ⟨Nat.le_of_ble_eq_true rfl, Nat.le_of_ble_eq_true rfl, Nat.le_of_ble_eq_true rfl, Nat.le_of_ble_eq_true rfl⟩ ?_
                    refine zx_if_ne (tgt := 267) (by first | exact hz189 _ _ | assumption | exact zr_b _ | exact zcmp_r _ _ | exact hzD _ _ | exact zr3 (tS_b hW _) | exact zr3 (lsc_b hW _ _) | exact zr3 (sc_b hW _ _) | exact rkP_zr hW _ | exact scA_zr hW _ _ | exact zr3 (cW_b hW) | exact zr3 (wS_b hW) | exact zr3 (wS_b hWn) | (unfold zr at *; omega)) dL_acts_238 (by decide) (fun h238 => ?_) (fun h238 => ?_)
                    · exfalso; omega
                    · refine zx_aloadN dL_acts_241 rfl rfl ?_
                      refine zx_iload dL_acts_242 rfl ?_
                      refine zy_cv [zi (D 12 0)] (fX9_kindOf  hfl hz189 rfl hr189.2.2.2.2.2.1 (by first | exact hz189 _ _ | assumption | exact zr_b _ | exact zcmp_r _ _ | exact hzD _ _ | exact zr3 (tS_b hW _) | exact zr3 (lsc_b hW _ _) | exact zr3 (sc_b hW _ _) | exact rkP_zr hW _ | exact scA_zr hW _ _ | exact zr3 (cW_b hW) | exact zr3 (wS_b hW) | exact zr3 (wS_b hWn) | (unfold zr at *; omega)) (by first | assumption | omega)) dL_acts_244 (by decide) rfl cw_RL_109 okX9_kindOf rfl (Nat.le_of_ble_eq_true rfl) ⟨Nat.le_of_ble_eq_true rfl, Nat.le_of_ble_eq_true rfl, Nat.le_of_ble_eq_true rfl, Nat.le_of_ble_eq_true rfl⟩ ?_
                      refine zx_iload dL_acts_247 rfl ?_
                      refine zx_icmp_ne (tgt := 267) (by first | exact hz189 _ _ | assumption | exact zr_b _ | exact zcmp_r _ _ | exact hzD _ _ | exact zr3 (tS_b hW _) | exact zr3 (lsc_b hW _ _) | exact zr3 (sc_b hW _ _) | exact rkP_zr hW _ | exact scA_zr hW _ _ | exact zr3 (cW_b hW) | exact zr3 (wS_b hW) | exact zr3 (wS_b hWn) | (unfold zr at *; omega)) (by first | exact hz189 _ _ | assumption | exact zr_b _ | exact zcmp_r _ _ | exact hzD _ _ | exact zr3 (tS_b hW _) | exact zr3 (lsc_b hW _ _) | exact zr3 (sc_b hW _ _) | exact rkP_zr hW _ | exact scA_zr hW _ _ | exact zr3 (cW_b hW) | exact zr3 (wS_b hW) | exact zr3 (wS_b hWn) | (unfold zr at *; omega)) dL_acts_249 (by decide) (fun h249 => ?_) (fun h249 => ?_)
                      · exfalso; omega
                      · refine zx_aloadN dL_acts_252 rfl rfl ?_
                        refine zx_iload dL_acts_253 rfl ?_
                        refine zy_cv [zi (D 12 0)] (fX9_valueOf  hfl hz189 rfl hr189.2.2.2.2.2.1 (by first | exact hz189 _ _ | assumption | exact zr_b _ | exact zcmp_r _ _ | exact hzD _ _ | exact zr3 (tS_b hW _) | exact zr3 (lsc_b hW _ _) | exact zr3 (sc_b hW _ _) | exact rkP_zr hW _ | exact scA_zr hW _ _ | exact zr3 (cW_b hW) | exact zr3 (wS_b hW) | exact zr3 (wS_b hWn) | (unfold zr at *; omega)) (by first | assumption | omega)) dL_acts_255 (by decide) rfl cw_RL_114 okX9_valueOf rfl (Nat.le_of_ble_eq_true rfl) ⟨Nat.le_of_ble_eq_true rfl, Nat.le_of_ble_eq_true rfl, Nat.le_of_ble_eq_true rfl, Nat.le_of_ble_eq_true rfl⟩ ?_
                        refine zx_iload dL_acts_258 rfl ?_
                        refine zx_icmp_ne (tgt := 267) (by first | exact hz189 _ _ | assumption | exact zr_b _ | exact zcmp_r _ _ | exact hzD _ _ | exact zr3 (tS_b hW _) | exact zr3 (lsc_b hW _ _) | exact zr3 (sc_b hW _ _) | exact rkP_zr hW _ | exact scA_zr hW _ _ | exact zr3 (cW_b hW) | exact zr3 (wS_b hW) | exact zr3 (wS_b hWn) | (unfold zr at *; omega)) (by first | exact hz189 _ _ | assumption | exact zr_b _ | exact zcmp_r _ _ | exact hzD _ _ | exact zr3 (tS_b hW _) | exact zr3 (lsc_b hW _ _) | exact zr3 (sc_b hW _ _) | exact rkP_zr hW _ | exact scA_zr hW _ _ | exact zr3 (cW_b hW) | exact zr3 (wS_b hW) | exact zr3 (wS_b hWn) | (unfold zr at *; omega)) dL_acts_260 (by decide) (fun h260 => ?_) (fun h260 => ?_)
                        · exfalso; omega
                        · refine zx_iconst dL_acts_263 ?_
                          refine zx_goto (tgt := 268) dL_acts_264 (by decide) ?_
                          refine zx_iret rfl rfl dL_acts_268 ?_
                          rw [hQ]
                          refine ⟨congrArg (fun z : Int => (Sum.inl (some (zi z)) : Option zV ⊕ String)) ?_, ?_⟩
                          · first | rfl | assumption | omega
                          exact AP_e (aB_1 hu.2 (by omega)) (AP_d (zSame_rf _ _) hr189 (zSame_rf _ _) hz189)
              · refine zx_iload dL_acts_201 rfl ?_
                refine zx_bipush dL_acts_203 rfl ?_
                refine zx_icmp_ne (tgt := 212) (by first | exact hz189 _ _ | assumption | exact zr_b _ | exact zcmp_r _ _ | exact hzD _ _ | exact zr3 (tS_b hW _) | exact zr3 (lsc_b hW _ _) | exact zr3 (sc_b hW _ _) | exact rkP_zr hW _ | exact scA_zr hW _ _ | exact zr3 (cW_b hW) | exact zr3 (wS_b hW) | exact zr3 (wS_b hWn) | (unfold zr at *; omega)) (by first | exact hz189 _ _ | assumption | exact zr_b _ | exact zcmp_r _ _ | exact hzD _ _ | exact zr3 (tS_b hW _) | exact zr3 (lsc_b hW _ _) | exact zr3 (sc_b hW _ _) | exact rkP_zr hW _ | exact scA_zr hW _ _ | exact zr3 (cW_b hW) | exact zr3 (wS_b hW) | exact zr3 (wS_b hWn) | (unfold zr at *; omega)) dL_acts_205 (by decide) (fun h205 => ?_) (fun h205 => ?_)
                · exfalso; omega
                · refine zx_iconst dL_acts_208 ?_
                  refine zx_goto (tgt := 268) dL_acts_209 (by decide) ?_
                  refine zx_iret rfl rfl dL_acts_268 ?_
                  rw [hQ]
                  refine ⟨congrArg (fun z : Int => (Sum.inl (some (zi z)) : Option zV ⊕ String)) ?_, ?_⟩
                  · first | rfl | assumption | omega
                  exact AP_e (aB_1 hu.2 (by omega)) (AP_d (zSame_rf _ _) hr189 (zSame_rf _ _) hz189)
            · refine zy_csHR [zf 9 0, zi (y % 5), zi (1 + (x % 30)), zi (aV mk (y % 5) z), zi (1 + ((x + z) % 9))] (sL_does_addF  hfl hz hB hW (HN_j hN (zSame_rf _ _)) (HBA_j hA (zSame_rf _ _)) (by first | assumption | omega) (by first | assumption | omega) (by first | assumption | omega) (by first | assumption | omega)) dL_acts_189 cw_RL_231 okL_does rfl (Nat.le_of_ble_eq_true rfl) ⟨Nat.le_of_ble_eq_true rfl, Nat.le_of_ble_eq_true rfl, Nat.le_of_ble_eq_true rfl, Nat.le_of_ble_eq_true rfl⟩ (fun τ189 hr189 => ?_)
              have hz189 : zOK τ189 := hr189.1
              refine zy_istore [zf 9 0, zi mk, zi u, zi x, zi y, zi z, zi (D 12 0), zi (x % (D 12 0)), zi (y % 5), zi (aV mk (y % 5) z), zi (-103), zu, zu, zu] dL_acts_192 (Nat.le_of_ble_eq_true rfl) (Nat.le_of_ble_eq_true rfl) rfl rfl ?_
              refine zx_iload dL_acts_194 rfl ?_
              refine zx_bipush dL_acts_196 rfl ?_
              refine zx_icmp_ne (tgt := 216) (by first | exact hz189 _ _ | assumption | exact zr_b _ | exact zcmp_r _ _ | exact hzD _ _ | exact zr3 (tS_b hW _) | exact zr3 (lsc_b hW _ _) | exact zr3 (sc_b hW _ _) | exact rkP_zr hW _ | exact scA_zr hW _ _ | exact zr3 (cW_b hW) | exact zr3 (wS_b hW) | exact zr3 (wS_b hWn) | (unfold zr at *; omega)) (by first | exact hz189 _ _ | assumption | exact zr_b _ | exact zcmp_r _ _ | exact hzD _ _ | exact zr3 (tS_b hW _) | exact zr3 (lsc_b hW _ _) | exact zr3 (sc_b hW _ _) | exact rkP_zr hW _ | exact scA_zr hW _ _ | exact zr3 (cW_b hW) | exact zr3 (wS_b hW) | exact zr3 (wS_b hWn) | (unfold zr at *; omega)) dL_acts_198 (by decide) (fun h198 => ?_) (fun h198 => ?_)
              · exfalso; omega
              · refine zx_iload dL_acts_201 rfl ?_
                refine zx_bipush dL_acts_203 rfl ?_
                refine zx_icmp_ne (tgt := 212) (by first | exact hz189 _ _ | assumption | exact zr_b _ | exact zcmp_r _ _ | exact hzD _ _ | exact zr3 (tS_b hW _) | exact zr3 (lsc_b hW _ _) | exact zr3 (sc_b hW _ _) | exact rkP_zr hW _ | exact scA_zr hW _ _ | exact zr3 (cW_b hW) | exact zr3 (wS_b hW) | exact zr3 (wS_b hWn) | (unfold zr at *; omega)) (by first | exact hz189 _ _ | assumption | exact zr_b _ | exact zcmp_r _ _ | exact hzD _ _ | exact zr3 (tS_b hW _) | exact zr3 (lsc_b hW _ _) | exact zr3 (sc_b hW _ _) | exact rkP_zr hW _ | exact scA_zr hW _ _ | exact zr3 (cW_b hW) | exact zr3 (wS_b hW) | exact zr3 (wS_b hWn) | (unfold zr at *; omega)) dL_acts_205 (by decide) (fun h205 => ?_) (fun h205 => ?_)
                · exact absurd h205 (by decide)
                · refine zx_iconst dL_acts_208 ?_
                  refine zx_goto (tgt := 268) dL_acts_209 (by decide) ?_
                  refine zx_iret rfl rfl dL_acts_268 ?_
                  rw [hQ]
                  refine ⟨congrArg (fun z : Int => (Sum.inl (some (zi z)) : Option zV ⊕ String)) ?_, ?_⟩
                  · first | rfl | assumption | omega
                  exact AP_e (aB_0 hu.2 (by omega)) (AP_f hW (zSame_rf _ _) hr189 (zSame_rf _ _) hz189 rfl)
        · refine zx_iload dL_acts_112 rfl ?_
          refine zx_iconst dL_acts_114 ?_
          refine zx_irem (by omega) (by omega) (by omega) (by omega) dL_acts_115 ?_
          refine zy_top (b := aV mk (y % 5) z) ((by unfold aV; rw [if_pos h109])) ?_
          refine zx_goto (tgt := 167) dL_acts_116 (by decide) ?_
          refine zy_istore [zf 9 0, zi mk, zi u, zi x, zi y, zi z, zi (D 12 0), zi (x % (D 12 0)), zi (y % 5), zi (aV mk (y % 5) z), zu, zu, zu, zu] dL_acts_167 (Nat.le_of_ble_eq_true rfl) (Nat.le_of_ble_eq_true rfl) rfl rfl ?_
          refine zx_aloadN dL_acts_169 rfl rfl ?_
          refine zx_iload dL_acts_170 rfl ?_
          refine zx_iconst dL_acts_172 ?_
          refine zx_iloadN dL_acts_173 rfl rfl ?_
          refine zx_bipush dL_acts_174 rfl ?_
          refine zx_irem (by omega) (by omega) (by omega) (by omega) dL_acts_176 ?_
          refine zx_iadd dL_acts_177 ?_
          refine zx_iload dL_acts_178 rfl ?_
          refine zx_iconst dL_acts_180 ?_
          refine zx_iloadN dL_acts_181 rfl rfl ?_
          refine zx_iload dL_acts_182 rfl ?_
          refine zx_iadd dL_acts_184 ?_
          refine zx_bipush dL_acts_185 rfl ?_
          refine zx_irem (by omega) (by omega) (by omega) (by omega) dL_acts_187 ?_
          refine zx_iadd dL_acts_188 ?_
          by_cases hb189 : D 12 0 < 40
          · refine zy_csHR [zf 9 0, zi (y % 5), zi (1 + (x % 30)), zi (aV mk (y % 5) z), zi (1 + ((x + z) % 9))] (sL_does_add  hfl hz hB hW (HN_j hN (zSame_rf _ _)) (HBA_j hA (zSame_rf _ _)) (by first | assumption | omega) (by first | assumption | omega) (by first | assumption | omega) (by first | assumption | omega)) dL_acts_189 cw_RL_231 okL_does rfl (Nat.le_of_ble_eq_true rfl) ⟨Nat.le_of_ble_eq_true rfl, Nat.le_of_ble_eq_true rfl, Nat.le_of_ble_eq_true rfl, Nat.le_of_ble_eq_true rfl⟩ (fun τ189 hr189 => ?_)
            have hz189 : zOK τ189 := hr189.1
            have hl := hr189.2.2.2.2.2.2
            have hWn := hr189.2.2.2.2.2.1
            have hzDn := hzDof (rfl : bK τ189 = bK τ189) hz189
            obtain ⟨e12, e14, e15, e17, e18⟩ := ad_post hl (by omega)
            refine zy_istore [zf 9 0, zi mk, zi u, zi x, zi y, zi z, zi (D 12 0), zi (x % (D 12 0)), zi (y % 5), zi (aV mk (y % 5) z), zi (D 12 0), zu, zu, zu] dL_acts_192 (Nat.le_of_ble_eq_true rfl) (Nat.le_of_ble_eq_true rfl) rfl rfl ?_
            refine zx_iload dL_acts_194 rfl ?_
            refine zx_bipush dL_acts_196 rfl ?_
            refine zx_icmp_ne (tgt := 216) (by first | exact hz189 _ _ | assumption | exact zr_b _ | exact zcmp_r _ _ | exact hzD _ _ | exact zr3 (tS_b hW _) | exact zr3 (lsc_b hW _ _) | exact zr3 (sc_b hW _ _) | exact rkP_zr hW _ | exact scA_zr hW _ _ | exact zr3 (cW_b hW) | exact zr3 (wS_b hW) | exact zr3 (wS_b hWn) | (unfold zr at *; omega)) (by first | exact hz189 _ _ | assumption | exact zr_b _ | exact zcmp_r _ _ | exact hzD _ _ | exact zr3 (tS_b hW _) | exact zr3 (lsc_b hW _ _) | exact zr3 (sc_b hW _ _) | exact rkP_zr hW _ | exact scA_zr hW _ _ | exact zr3 (cW_b hW) | exact zr3 (wS_b hW) | exact zr3 (wS_b hWn) | (unfold zr at *; omega)) dL_acts_198 (by decide) (fun h198 => ?_) (fun h198 => ?_)
            · refine zx_iload dL_acts_216 rfl ?_
              refine zx_iload dL_acts_218 rfl ?_
              refine zx_icmp_ne (tgt := 267) (by first | exact hz189 _ _ | assumption | exact zr_b _ | exact zcmp_r _ _ | exact hzD _ _ | exact zr3 (tS_b hW _) | exact zr3 (lsc_b hW _ _) | exact zr3 (sc_b hW _ _) | exact rkP_zr hW _ | exact scA_zr hW _ _ | exact zr3 (cW_b hW) | exact zr3 (wS_b hW) | exact zr3 (wS_b hWn) | (unfold zr at *; omega)) (by first | exact hz189 _ _ | assumption | exact zr_b _ | exact zcmp_r _ _ | exact hzD _ _ | exact zr3 (tS_b hW _) | exact zr3 (lsc_b hW _ _) | exact zr3 (sc_b hW _ _) | exact rkP_zr hW _ | exact scA_zr hW _ _ | exact zr3 (cW_b hW) | exact zr3 (wS_b hW) | exact zr3 (wS_b hWn) | (unfold zr at *; omega)) dL_acts_220 (by decide) (fun h220 => ?_) (fun h220 => ?_)
              · exfalso; omega
              · refine zx_aloadN dL_acts_223 rfl rfl ?_
                refine zx_iload dL_acts_224 rfl ?_
                refine zy_cv [zi (D 12 0)] (fX9_isRead  hfl hz189 rfl hr189.2.2.2.2.2.1 (by first | exact hz189 _ _ | assumption | exact zr_b _ | exact zcmp_r _ _ | exact hzD _ _ | exact zr3 (tS_b hW _) | exact zr3 (lsc_b hW _ _) | exact zr3 (sc_b hW _ _) | exact rkP_zr hW _ | exact scA_zr hW _ _ | exact zr3 (cW_b hW) | exact zr3 (wS_b hW) | exact zr3 (wS_b hWn) | (unfold zr at *; omega)) (by first | assumption | omega)) dL_acts_226 (by decide) rfl cw_RL_122 okX9_isRead rfl (Nat.le_of_ble_eq_true rfl) ⟨Nat.le_of_ble_eq_true rfl, Nat.le_of_ble_eq_true rfl, Nat.le_of_ble_eq_true rfl, Nat.le_of_ble_eq_true rfl⟩ ?_
                refine zx_if_ne (tgt := 267) (by first | exact hz189 _ _ | assumption | exact zr_b _ | exact zcmp_r _ _ | exact hzD _ _ | exact zr3 (tS_b hW _) | exact zr3 (lsc_b hW _ _) | exact zr3 (sc_b hW _ _) | exact rkP_zr hW _ | exact scA_zr hW _ _ | exact zr3 (cW_b hW) | exact zr3 (wS_b hW) | exact zr3 (wS_b hWn) | (unfold zr at *; omega)) dL_acts_229 (by decide) (fun h229 => ?_) (fun h229 => ?_)
                · exfalso; omega
                · refine zx_aloadN dL_acts_232 rfl rfl ?_
                  refine zx_iload dL_acts_233 rfl ?_
                  refine zy_cv [zi (D 12 0)] (fX9_isAside  hfl hz189 rfl hr189.2.2.2.2.2.1 (by first | exact hz189 _ _ | assumption | exact zr_b _ | exact zcmp_r _ _ | exact hzD _ _ | exact zr3 (tS_b hW _) | exact zr3 (lsc_b hW _ _) | exact zr3 (sc_b hW _ _) | exact rkP_zr hW _ | exact scA_zr hW _ _ | exact zr3 (cW_b hW) | exact zr3 (wS_b hW) | exact zr3 (wS_b hWn) | (unfold zr at *; omega)) (by first | assumption | omega)) dL_acts_235 (by decide) rfl cw_RL_128 okX9_isAside rfl (Nat.le_of_ble_eq_true rfl) ⟨Nat.le_of_ble_eq_true rfl, Nat.le_of_ble_eq_true rfl, Nat.le_of_ble_eq_true rfl, Nat.le_of_ble_eq_true rfl⟩ ?_
                  refine zx_if_ne (tgt := 267) (by first | exact hz189 _ _ | assumption | exact zr_b _ | exact zcmp_r _ _ | exact hzD _ _ | exact zr3 (tS_b hW _) | exact zr3 (lsc_b hW _ _) | exact zr3 (sc_b hW _ _) | exact rkP_zr hW _ | exact scA_zr hW _ _ | exact zr3 (cW_b hW) | exact zr3 (wS_b hW) | exact zr3 (wS_b hWn) | (unfold zr at *; omega)) dL_acts_238 (by decide) (fun h238 => ?_) (fun h238 => ?_)
                  · exfalso; omega
                  · refine zx_aloadN dL_acts_241 rfl rfl ?_
                    refine zx_iload dL_acts_242 rfl ?_
                    refine zy_cv [zi (D 12 0)] (fX9_kindOf  hfl hz189 rfl hr189.2.2.2.2.2.1 (by first | exact hz189 _ _ | assumption | exact zr_b _ | exact zcmp_r _ _ | exact hzD _ _ | exact zr3 (tS_b hW _) | exact zr3 (lsc_b hW _ _) | exact zr3 (sc_b hW _ _) | exact rkP_zr hW _ | exact scA_zr hW _ _ | exact zr3 (cW_b hW) | exact zr3 (wS_b hW) | exact zr3 (wS_b hWn) | (unfold zr at *; omega)) (by first | assumption | omega)) dL_acts_244 (by decide) rfl cw_RL_109 okX9_kindOf rfl (Nat.le_of_ble_eq_true rfl) ⟨Nat.le_of_ble_eq_true rfl, Nat.le_of_ble_eq_true rfl, Nat.le_of_ble_eq_true rfl, Nat.le_of_ble_eq_true rfl⟩ ?_
                    refine zx_iload dL_acts_247 rfl ?_
                    refine zx_icmp_ne (tgt := 267) (by first | exact hz189 _ _ | assumption | exact zr_b _ | exact zcmp_r _ _ | exact hzD _ _ | exact zr3 (tS_b hW _) | exact zr3 (lsc_b hW _ _) | exact zr3 (sc_b hW _ _) | exact rkP_zr hW _ | exact scA_zr hW _ _ | exact zr3 (cW_b hW) | exact zr3 (wS_b hW) | exact zr3 (wS_b hWn) | (unfold zr at *; omega)) (by first | exact hz189 _ _ | assumption | exact zr_b _ | exact zcmp_r _ _ | exact hzD _ _ | exact zr3 (tS_b hW _) | exact zr3 (lsc_b hW _ _) | exact zr3 (sc_b hW _ _) | exact rkP_zr hW _ | exact scA_zr hW _ _ | exact zr3 (cW_b hW) | exact zr3 (wS_b hW) | exact zr3 (wS_b hWn) | (unfold zr at *; omega)) dL_acts_249 (by decide) (fun h249 => ?_) (fun h249 => ?_)
                    · exfalso; omega
                    · refine zx_aloadN dL_acts_252 rfl rfl ?_
                      refine zx_iload dL_acts_253 rfl ?_
                      refine zy_cv [zi (D 12 0)] (fX9_valueOf  hfl hz189 rfl hr189.2.2.2.2.2.1 (by first | exact hz189 _ _ | assumption | exact zr_b _ | exact zcmp_r _ _ | exact hzD _ _ | exact zr3 (tS_b hW _) | exact zr3 (lsc_b hW _ _) | exact zr3 (sc_b hW _ _) | exact rkP_zr hW _ | exact scA_zr hW _ _ | exact zr3 (cW_b hW) | exact zr3 (wS_b hW) | exact zr3 (wS_b hWn) | (unfold zr at *; omega)) (by first | assumption | omega)) dL_acts_255 (by decide) rfl cw_RL_114 okX9_valueOf rfl (Nat.le_of_ble_eq_true rfl) ⟨Nat.le_of_ble_eq_true rfl, Nat.le_of_ble_eq_true rfl, Nat.le_of_ble_eq_true rfl, Nat.le_of_ble_eq_true rfl⟩ ?_
                      refine zx_iload dL_acts_258 rfl ?_
                      refine zx_icmp_ne (tgt := 267) (by first | exact hz189 _ _ | assumption | exact zr_b _ | exact zcmp_r _ _ | exact hzD _ _ | exact zr3 (tS_b hW _) | exact zr3 (lsc_b hW _ _) | exact zr3 (sc_b hW _ _) | exact rkP_zr hW _ | exact scA_zr hW _ _ | exact zr3 (cW_b hW) | exact zr3 (wS_b hW) | exact zr3 (wS_b hWn) | (unfold zr at *; omega)) (by first | exact hz189 _ _ | assumption | exact zr_b _ | exact zcmp_r _ _ | exact hzD _ _ | exact zr3 (tS_b hW _) | exact zr3 (lsc_b hW _ _) | exact zr3 (sc_b hW _ _) | exact rkP_zr hW _ | exact scA_zr hW _ _ | exact zr3 (cW_b hW) | exact zr3 (wS_b hW) | exact zr3 (wS_b hWn) | (unfold zr at *; omega)) dL_acts_260 (by decide) (fun h260 => ?_) (fun h260 => ?_)
                      · exfalso; omega
                      · refine zx_iconst dL_acts_263 ?_
                        refine zx_goto (tgt := 268) dL_acts_264 (by decide) ?_
                        refine zx_iret rfl rfl dL_acts_268 ?_
                        rw [hQ]
                        refine ⟨congrArg (fun z : Int => (Sum.inl (some (zi z)) : Option zV ⊕ String)) ?_, ?_⟩
                        · first | rfl | assumption | omega
                        exact AP_e (aB_1 hu.2 (by omega)) (AP_d (zSame_rf _ _) hr189 (zSame_rf _ _) hz189)
            · refine zx_iload dL_acts_201 rfl ?_
              refine zx_bipush dL_acts_203 rfl ?_
              refine zx_icmp_ne (tgt := 212) (by first | exact hz189 _ _ | assumption | exact zr_b _ | exact zcmp_r _ _ | exact hzD _ _ | exact zr3 (tS_b hW _) | exact zr3 (lsc_b hW _ _) | exact zr3 (sc_b hW _ _) | exact rkP_zr hW _ | exact scA_zr hW _ _ | exact zr3 (cW_b hW) | exact zr3 (wS_b hW) | exact zr3 (wS_b hWn) | (unfold zr at *; omega)) (by first | exact hz189 _ _ | assumption | exact zr_b _ | exact zcmp_r _ _ | exact hzD _ _ | exact zr3 (tS_b hW _) | exact zr3 (lsc_b hW _ _) | exact zr3 (sc_b hW _ _) | exact rkP_zr hW _ | exact scA_zr hW _ _ | exact zr3 (cW_b hW) | exact zr3 (wS_b hW) | exact zr3 (wS_b hWn) | (unfold zr at *; omega)) dL_acts_205 (by decide) (fun h205 => ?_) (fun h205 => ?_)
              · exfalso; omega
              · refine zx_iconst dL_acts_208 ?_
                refine zx_goto (tgt := 268) dL_acts_209 (by decide) ?_
                refine zx_iret rfl rfl dL_acts_268 ?_
                rw [hQ]
                refine ⟨congrArg (fun z : Int => (Sum.inl (some (zi z)) : Option zV ⊕ String)) ?_, ?_⟩
                · first | rfl | assumption | omega
                exact AP_e (aB_1 hu.2 (by omega)) (AP_d (zSame_rf _ _) hr189 (zSame_rf _ _) hz189)
          · refine zy_csHR [zf 9 0, zi (y % 5), zi (1 + (x % 30)), zi (aV mk (y % 5) z), zi (1 + ((x + z) % 9))] (sL_does_addF  hfl hz hB hW (HN_j hN (zSame_rf _ _)) (HBA_j hA (zSame_rf _ _)) (by first | assumption | omega) (by first | assumption | omega) (by first | assumption | omega) (by first | assumption | omega)) dL_acts_189 cw_RL_231 okL_does rfl (Nat.le_of_ble_eq_true rfl) ⟨Nat.le_of_ble_eq_true rfl, Nat.le_of_ble_eq_true rfl, Nat.le_of_ble_eq_true rfl, Nat.le_of_ble_eq_true rfl⟩ (fun τ189 hr189 => ?_)
            have hz189 : zOK τ189 := hr189.1
            refine zy_istore [zf 9 0, zi mk, zi u, zi x, zi y, zi z, zi (D 12 0), zi (x % (D 12 0)), zi (y % 5), zi (aV mk (y % 5) z), zi (-103), zu, zu, zu] dL_acts_192 (Nat.le_of_ble_eq_true rfl) (Nat.le_of_ble_eq_true rfl) rfl rfl ?_
            refine zx_iload dL_acts_194 rfl ?_
            refine zx_bipush dL_acts_196 rfl ?_
            refine zx_icmp_ne (tgt := 216) (by first | exact hz189 _ _ | assumption | exact zr_b _ | exact zcmp_r _ _ | exact hzD _ _ | exact zr3 (tS_b hW _) | exact zr3 (lsc_b hW _ _) | exact zr3 (sc_b hW _ _) | exact rkP_zr hW _ | exact scA_zr hW _ _ | exact zr3 (cW_b hW) | exact zr3 (wS_b hW) | exact zr3 (wS_b hWn) | (unfold zr at *; omega)) (by first | exact hz189 _ _ | assumption | exact zr_b _ | exact zcmp_r _ _ | exact hzD _ _ | exact zr3 (tS_b hW _) | exact zr3 (lsc_b hW _ _) | exact zr3 (sc_b hW _ _) | exact rkP_zr hW _ | exact scA_zr hW _ _ | exact zr3 (cW_b hW) | exact zr3 (wS_b hW) | exact zr3 (wS_b hWn) | (unfold zr at *; omega)) dL_acts_198 (by decide) (fun h198 => ?_) (fun h198 => ?_)
            · exfalso; omega
            · refine zx_iload dL_acts_201 rfl ?_
              refine zx_bipush dL_acts_203 rfl ?_
              refine zx_icmp_ne (tgt := 212) (by first | exact hz189 _ _ | assumption | exact zr_b _ | exact zcmp_r _ _ | exact hzD _ _ | exact zr3 (tS_b hW _) | exact zr3 (lsc_b hW _ _) | exact zr3 (sc_b hW _ _) | exact rkP_zr hW _ | exact scA_zr hW _ _ | exact zr3 (cW_b hW) | exact zr3 (wS_b hW) | exact zr3 (wS_b hWn) | (unfold zr at *; omega)) (by first | exact hz189 _ _ | assumption | exact zr_b _ | exact zcmp_r _ _ | exact hzD _ _ | exact zr3 (tS_b hW _) | exact zr3 (lsc_b hW _ _) | exact zr3 (sc_b hW _ _) | exact rkP_zr hW _ | exact scA_zr hW _ _ | exact zr3 (cW_b hW) | exact zr3 (wS_b hW) | exact zr3 (wS_b hWn) | (unfold zr at *; omega)) dL_acts_205 (by decide) (fun h205 => ?_) (fun h205 => ?_)
              · exact absurd h205 (by decide)
              · refine zx_iconst dL_acts_208 ?_
                refine zx_goto (tgt := 268) dL_acts_209 (by decide) ?_
                refine zx_iret rfl rfl dL_acts_268 ?_
                rw [hQ]
                refine ⟨congrArg (fun z : Int => (Sum.inl (some (zi z)) : Option zV ⊕ String)) ?_, ?_⟩
                · first | rfl | assumption | omega
                exact AP_e (aB_0 hu.2 (by omega)) (AP_f hW (zSame_rf _ _) hr189 (zSame_rf _ _) hz189 rfl)
      · refine zx_iloadN dL_acts_84 rfl rfl ?_
        refine zx_if_ne (tgt := 107) (by first | exact hz _ _ | assumption | exact zr_b _ | exact zcmp_r _ _ | exact hzD _ _ | exact zr3 (tS_b hW _) | exact zr3 (lsc_b hW _ _) | exact zr3 (sc_b hW _ _) | exact rkP_zr hW _ | exact scA_zr hW _ _ | exact zr3 (cW_b hW) | exact zr3 (wS_b hW) | exact zr3 (wS_b hWn) | (unfold zr at *; omega)) dL_acts_85 (by decide) (fun h85 => ?_) (fun h85 => ?_)
        · have hvk : WFk D (y % 5) (aV mk (y % 5) z) := aV_k hm hmb (by omega) hzz.1 (by omega)
          have hvz : zr (aV mk (y % 5) z) := by obtain ⟨-, -, v0, v1, -⟩ := hvk; unfold zr; omega
          refine zx_iload dL_acts_107 rfl ?_
          refine zx_if_ne (tgt := 119) (by first | exact hz _ _ | assumption | exact zr_b _ | exact zcmp_r _ _ | exact hzD _ _ | exact zr3 (tS_b hW _) | exact zr3 (lsc_b hW _ _) | exact zr3 (sc_b hW _ _) | exact rkP_zr hW _ | exact scA_zr hW _ _ | exact zr3 (cW_b hW) | exact zr3 (wS_b hW) | exact zr3 (wS_b hWn) | (unfold zr at *; omega)) dL_acts_109 (by decide) (fun h109 => ?_) (fun h109 => ?_)
          · refine zx_iload dL_acts_119 rfl ?_
            refine zx_iconst dL_acts_121 ?_
            refine zx_icmp_ne (tgt := 132) (by first | exact hz _ _ | assumption | exact zr_b _ | exact zcmp_r _ _ | exact hzD _ _ | exact zr3 (tS_b hW _) | exact zr3 (lsc_b hW _ _) | exact zr3 (sc_b hW _ _) | exact rkP_zr hW _ | exact scA_zr hW _ _ | exact zr3 (cW_b hW) | exact zr3 (wS_b hW) | exact zr3 (wS_b hWn) | (unfold zr at *; omega)) (by first | exact hz _ _ | assumption | exact zr_b _ | exact zcmp_r _ _ | exact hzD _ _ | exact zr3 (tS_b hW _) | exact zr3 (lsc_b hW _ _) | exact zr3 (sc_b hW _ _) | exact rkP_zr hW _ | exact scA_zr hW _ _ | exact zr3 (cW_b hW) | exact zr3 (wS_b hW) | exact zr3 (wS_b hWn) | (unfold zr at *; omega)) dL_acts_122 (by decide) (fun h122 => ?_) (fun h122 => ?_)
            · refine zx_iload dL_acts_132 rfl ?_
              refine zx_iconst dL_acts_134 ?_
              refine zx_icmp_ne (tgt := 145) (by first | exact hz _ _ | assumption | exact zr_b _ | exact zcmp_r _ _ | exact hzD _ _ | exact zr3 (tS_b hW _) | exact zr3 (lsc_b hW _ _) | exact zr3 (sc_b hW _ _) | exact rkP_zr hW _ | exact scA_zr hW _ _ | exact zr3 (cW_b hW) | exact zr3 (wS_b hW) | exact zr3 (wS_b hWn) | (unfold zr at *; omega)) (by first | exact hz _ _ | assumption | exact zr_b _ | exact zcmp_r _ _ | exact hzD _ _ | exact zr3 (tS_b hW _) | exact zr3 (lsc_b hW _ _) | exact zr3 (sc_b hW _ _) | exact rkP_zr hW _ | exact scA_zr hW _ _ | exact zr3 (cW_b hW) | exact zr3 (wS_b hW) | exact zr3 (wS_b hWn) | (unfold zr at *; omega)) dL_acts_135 (by decide) (fun h135 => ?_) (fun h135 => ?_)
              · refine zx_iload dL_acts_145 rfl ?_
                refine zx_iconst dL_acts_147 ?_
                refine zx_icmp_ne (tgt := 158) (by first | exact hz _ _ | assumption | exact zr_b _ | exact zcmp_r _ _ | exact hzD _ _ | exact zr3 (tS_b hW _) | exact zr3 (lsc_b hW _ _) | exact zr3 (sc_b hW _ _) | exact rkP_zr hW _ | exact scA_zr hW _ _ | exact zr3 (cW_b hW) | exact zr3 (wS_b hW) | exact zr3 (wS_b hWn) | (unfold zr at *; omega)) (by first | exact hz _ _ | assumption | exact zr_b _ | exact zcmp_r _ _ | exact hzD _ _ | exact zr3 (tS_b hW _) | exact zr3 (lsc_b hW _ _) | exact zr3 (sc_b hW _ _) | exact rkP_zr hW _ | exact scA_zr hW _ _ | exact zr3 (cW_b hW) | exact zr3 (wS_b hW) | exact zr3 (wS_b hWn) | (unfold zr at *; omega)) dL_acts_148 (by decide) (fun h148 => ?_) (fun h148 => ?_)
                · refine zx_sipush dL_acts_158 rfl ?_
                  refine zx_iload dL_acts_161 rfl ?_
                  refine zx_bipush dL_acts_163 rfl ?_
                  refine zx_irem (by omega) (by omega) (by omega) (by omega) dL_acts_165 ?_
                  refine zx_iadd dL_acts_166 ?_
                  refine zy_top (b := aV mk (y % 5) z) ((by unfold aV; rw [if_neg h109, if_neg h122, if_neg h135, if_neg h148])) ?_
                  refine zy_istore [zf 9 0, zi mk, zi u, zi x, zi y, zi z, zi (D 12 0), zi (x % (D 12 0)), zi (y % 5), zi (aV mk (y % 5) z), zu, zu, zu, zu] dL_acts_167 (Nat.le_of_ble_eq_true rfl) (Nat.le_of_ble_eq_true rfl) rfl rfl ?_
                  refine zx_aloadN dL_acts_169 rfl rfl ?_
                  refine zx_iload dL_acts_170 rfl ?_
                  refine zx_iconst dL_acts_172 ?_
                  refine zx_iloadN dL_acts_173 rfl rfl ?_
                  refine zx_bipush dL_acts_174 rfl ?_
                  refine zx_irem (by omega) (by omega) (by omega) (by omega) dL_acts_176 ?_
                  refine zx_iadd dL_acts_177 ?_
                  refine zx_iload dL_acts_178 rfl ?_
                  refine zx_iconst dL_acts_180 ?_
                  refine zx_iloadN dL_acts_181 rfl rfl ?_
                  refine zx_iload dL_acts_182 rfl ?_
                  refine zx_iadd dL_acts_184 ?_
                  refine zx_bipush dL_acts_185 rfl ?_
                  refine zx_irem (by omega) (by omega) (by omega) (by omega) dL_acts_187 ?_
                  refine zx_iadd dL_acts_188 ?_
                  by_cases hb189 : D 12 0 < 40
                  · refine zy_csHR [zf 9 0, zi (y % 5), zi (1 + (x % 30)), zi (aV mk (y % 5) z), zi (1 + ((x + z) % 9))] (sL_does_add  hfl hz hB hW (HN_j hN (zSame_rf _ _)) (HBA_j hA (zSame_rf _ _)) (by first | assumption | omega) (by first | assumption | omega) (by first | assumption | omega) (by first | assumption | omega)) dL_acts_189 cw_RL_231 okL_does rfl (Nat.le_of_ble_eq_true rfl) ⟨Nat.le_of_ble_eq_true rfl, Nat.le_of_ble_eq_true rfl, Nat.le_of_ble_eq_true rfl, Nat.le_of_ble_eq_true rfl⟩ (fun τ189 hr189 => ?_)
                    have hz189 : zOK τ189 := hr189.1
                    have hl := hr189.2.2.2.2.2.2
                    have hWn := hr189.2.2.2.2.2.1
                    have hzDn := hzDof (rfl : bK τ189 = bK τ189) hz189
                    obtain ⟨e12, e14, e15, e17, e18⟩ := ad_post hl (by omega)
                    refine zy_istore [zf 9 0, zi mk, zi u, zi x, zi y, zi z, zi (D 12 0), zi (x % (D 12 0)), zi (y % 5), zi (aV mk (y % 5) z), zi (D 12 0), zu, zu, zu] dL_acts_192 (Nat.le_of_ble_eq_true rfl) (Nat.le_of_ble_eq_true rfl) rfl rfl ?_
                    refine zx_iload dL_acts_194 rfl ?_
                    refine zx_bipush dL_acts_196 rfl ?_
                    refine zx_icmp_ne (tgt := 216) (by first | exact hz189 _ _ | assumption | exact zr_b _ | exact zcmp_r _ _ | exact hzD _ _ | exact zr3 (tS_b hW _) | exact zr3 (lsc_b hW _ _) | exact zr3 (sc_b hW _ _) | exact rkP_zr hW _ | exact scA_zr hW _ _ | exact zr3 (cW_b hW) | exact zr3 (wS_b hW) | exact zr3 (wS_b hWn) | (unfold zr at *; omega)) (by first | exact hz189 _ _ | assumption | exact zr_b _ | exact zcmp_r _ _ | exact hzD _ _ | exact zr3 (tS_b hW _) | exact zr3 (lsc_b hW _ _) | exact zr3 (sc_b hW _ _) | exact rkP_zr hW _ | exact scA_zr hW _ _ | exact zr3 (cW_b hW) | exact zr3 (wS_b hW) | exact zr3 (wS_b hWn) | (unfold zr at *; omega)) dL_acts_198 (by decide) (fun h198 => ?_) (fun h198 => ?_)
                    · refine zx_iload dL_acts_216 rfl ?_
                      refine zx_iload dL_acts_218 rfl ?_
                      refine zx_icmp_ne (tgt := 267) (by first | exact hz189 _ _ | assumption | exact zr_b _ | exact zcmp_r _ _ | exact hzD _ _ | exact zr3 (tS_b hW _) | exact zr3 (lsc_b hW _ _) | exact zr3 (sc_b hW _ _) | exact rkP_zr hW _ | exact scA_zr hW _ _ | exact zr3 (cW_b hW) | exact zr3 (wS_b hW) | exact zr3 (wS_b hWn) | (unfold zr at *; omega)) (by first | exact hz189 _ _ | assumption | exact zr_b _ | exact zcmp_r _ _ | exact hzD _ _ | exact zr3 (tS_b hW _) | exact zr3 (lsc_b hW _ _) | exact zr3 (sc_b hW _ _) | exact rkP_zr hW _ | exact scA_zr hW _ _ | exact zr3 (cW_b hW) | exact zr3 (wS_b hW) | exact zr3 (wS_b hWn) | (unfold zr at *; omega)) dL_acts_220 (by decide) (fun h220 => ?_) (fun h220 => ?_)
                      · exfalso; omega
                      · refine zx_aloadN dL_acts_223 rfl rfl ?_
                        refine zx_iload dL_acts_224 rfl ?_
                        refine zy_cv [zi (D 12 0)] (fX9_isRead  hfl hz189 rfl hr189.2.2.2.2.2.1 (by first | exact hz189 _ _ | assumption | exact zr_b _ | exact zcmp_r _ _ | exact hzD _ _ | exact zr3 (tS_b hW _) | exact zr3 (lsc_b hW _ _) | exact zr3 (sc_b hW _ _) | exact rkP_zr hW _ | exact scA_zr hW _ _ | exact zr3 (cW_b hW) | exact zr3 (wS_b hW) | exact zr3 (wS_b hWn) | (unfold zr at *; omega)) (by first | assumption | omega)) dL_acts_226 (by decide) rfl cw_RL_122 okX9_isRead rfl (Nat.le_of_ble_eq_true rfl) ⟨Nat.le_of_ble_eq_true rfl, Nat.le_of_ble_eq_true rfl, Nat.le_of_ble_eq_true rfl, Nat.le_of_ble_eq_true rfl⟩ ?_
                        refine zx_if_ne (tgt := 267) (by first | exact hz189 _ _ | assumption | exact zr_b _ | exact zcmp_r _ _ | exact hzD _ _ | exact zr3 (tS_b hW _) | exact zr3 (lsc_b hW _ _) | exact zr3 (sc_b hW _ _) | exact rkP_zr hW _ | exact scA_zr hW _ _ | exact zr3 (cW_b hW) | exact zr3 (wS_b hW) | exact zr3 (wS_b hWn) | (unfold zr at *; omega)) dL_acts_229 (by decide) (fun h229 => ?_) (fun h229 => ?_)
                        · exfalso; omega
                        · refine zx_aloadN dL_acts_232 rfl rfl ?_
                          refine zx_iload dL_acts_233 rfl ?_
                          refine zy_cv [zi (D 12 0)] (fX9_isAside  hfl hz189 rfl hr189.2.2.2.2.2.1 (by first | exact hz189 _ _ | assumption | exact zr_b _ | exact zcmp_r _ _ | exact hzD _ _ | exact zr3 (tS_b hW _) | exact zr3 (lsc_b hW _ _) | exact zr3 (sc_b hW _ _) | exact rkP_zr hW _ | exact scA_zr hW _ _ | exact zr3 (cW_b hW) | exact zr3 (wS_b hW) | exact zr3 (wS_b hWn) | (unfold zr at *; omega)) (by first | assumption | omega)) dL_acts_235 (by decide) rfl cw_RL_128 okX9_isAside rfl (Nat.le_of_ble_eq_true rfl) ⟨Nat.le_of_ble_eq_true rfl, Nat.le_of_ble_eq_true rfl, Nat.le_of_ble_eq_true rfl, Nat.le_of_ble_eq_true rfl⟩ ?_
                          refine zx_if_ne (tgt := 267) (by first | exact hz189 _ _ | assumption | exact zr_b _ | exact zcmp_r _ _ | exact hzD _ _ | exact zr3 (tS_b hW _) | exact zr3 (lsc_b hW _ _) | exact zr3 (sc_b hW _ _) | exact rkP_zr hW _ | exact scA_zr hW _ _ | exact zr3 (cW_b hW) | exact zr3 (wS_b hW) | exact zr3 (wS_b hWn) | (unfold zr at *; omega)) dL_acts_238 (by decide) (fun h238 => ?_) (fun h238 => ?_)
                          · exfalso; omega
                          · refine zx_aloadN dL_acts_241 rfl rfl ?_
                            refine zx_iload dL_acts_242 rfl ?_
                            refine zy_cv [zi (D 12 0)] (fX9_kindOf  hfl hz189 rfl hr189.2.2.2.2.2.1 (by first | exact hz189 _ _ | assumption | exact zr_b _ | exact zcmp_r _ _ | exact hzD _ _ | exact zr3 (tS_b hW _) | exact zr3 (lsc_b hW _ _) | exact zr3 (sc_b hW _ _) | exact rkP_zr hW _ | exact scA_zr hW _ _ | exact zr3 (cW_b hW) | exact zr3 (wS_b hW) | exact zr3 (wS_b hWn) | (unfold zr at *; omega)) (by first | assumption | omega)) dL_acts_244 (by decide) rfl cw_RL_109 okX9_kindOf rfl (Nat.le_of_ble_eq_true rfl) ⟨Nat.le_of_ble_eq_true rfl, Nat.le_of_ble_eq_true rfl, Nat.le_of_ble_eq_true rfl, Nat.le_of_ble_eq_true rfl⟩ ?_
                            refine zx_iload dL_acts_247 rfl ?_
                            refine zx_icmp_ne (tgt := 267) (by first | exact hz189 _ _ | assumption | exact zr_b _ | exact zcmp_r _ _ | exact hzD _ _ | exact zr3 (tS_b hW _) | exact zr3 (lsc_b hW _ _) | exact zr3 (sc_b hW _ _) | exact rkP_zr hW _ | exact scA_zr hW _ _ | exact zr3 (cW_b hW) | exact zr3 (wS_b hW) | exact zr3 (wS_b hWn) | (unfold zr at *; omega)) (by first | exact hz189 _ _ | assumption | exact zr_b _ | exact zcmp_r _ _ | exact hzD _ _ | exact zr3 (tS_b hW _) | exact zr3 (lsc_b hW _ _) | exact zr3 (sc_b hW _ _) | exact rkP_zr hW _ | exact scA_zr hW _ _ | exact zr3 (cW_b hW) | exact zr3 (wS_b hW) | exact zr3 (wS_b hWn) | (unfold zr at *; omega)) dL_acts_249 (by decide) (fun h249 => ?_) (fun h249 => ?_)
                            · exfalso; omega
                            · refine zx_aloadN dL_acts_252 rfl rfl ?_
                              refine zx_iload dL_acts_253 rfl ?_
                              refine zy_cv [zi (D 12 0)] (fX9_valueOf  hfl hz189 rfl hr189.2.2.2.2.2.1 (by first | exact hz189 _ _ | assumption | exact zr_b _ | exact zcmp_r _ _ | exact hzD _ _ | exact zr3 (tS_b hW _) | exact zr3 (lsc_b hW _ _) | exact zr3 (sc_b hW _ _) | exact rkP_zr hW _ | exact scA_zr hW _ _ | exact zr3 (cW_b hW) | exact zr3 (wS_b hW) | exact zr3 (wS_b hWn) | (unfold zr at *; omega)) (by first | assumption | omega)) dL_acts_255 (by decide) rfl cw_RL_114 okX9_valueOf rfl (Nat.le_of_ble_eq_true rfl) ⟨Nat.le_of_ble_eq_true rfl, Nat.le_of_ble_eq_true rfl, Nat.le_of_ble_eq_true rfl, Nat.le_of_ble_eq_true rfl⟩ ?_
                              refine zx_iload dL_acts_258 rfl ?_
                              refine zx_icmp_ne (tgt := 267) (by first | exact hz189 _ _ | assumption | exact zr_b _ | exact zcmp_r _ _ | exact hzD _ _ | exact zr3 (tS_b hW _) | exact zr3 (lsc_b hW _ _) | exact zr3 (sc_b hW _ _) | exact rkP_zr hW _ | exact scA_zr hW _ _ | exact zr3 (cW_b hW) | exact zr3 (wS_b hW) | exact zr3 (wS_b hWn) | (unfold zr at *; omega)) (by first | exact hz189 _ _ | assumption | exact zr_b _ | exact zcmp_r _ _ | exact hzD _ _ | exact zr3 (tS_b hW _) | exact zr3 (lsc_b hW _ _) | exact zr3 (sc_b hW _ _) | exact rkP_zr hW _ | exact scA_zr hW _ _ | exact zr3 (cW_b hW) | exact zr3 (wS_b hW) | exact zr3 (wS_b hWn) | (unfold zr at *; omega)) dL_acts_260 (by decide) (fun h260 => ?_) (fun h260 => ?_)
                              · exfalso; omega
                              · refine zx_iconst dL_acts_263 ?_
                                refine zx_goto (tgt := 268) dL_acts_264 (by decide) ?_
                                refine zx_iret rfl rfl dL_acts_268 ?_
                                rw [hQ]
                                refine ⟨congrArg (fun z : Int => (Sum.inl (some (zi z)) : Option zV ⊕ String)) ?_, ?_⟩
                                · first | rfl | assumption | omega
                                exact AP_e (aB_1 hu.2 (by omega)) (AP_d (zSame_rf _ _) hr189 (zSame_rf _ _) hz189)
                    · refine zx_iload dL_acts_201 rfl ?_
                      refine zx_bipush dL_acts_203 rfl ?_
                      refine zx_icmp_ne (tgt := 212) (by first | exact hz189 _ _ | assumption | exact zr_b _ | exact zcmp_r _ _ | exact hzD _ _ | exact zr3 (tS_b hW _) | exact zr3 (lsc_b hW _ _) | exact zr3 (sc_b hW _ _) | exact rkP_zr hW _ | exact scA_zr hW _ _ | exact zr3 (cW_b hW) | exact zr3 (wS_b hW) | exact zr3 (wS_b hWn) | (unfold zr at *; omega)) (by first | exact hz189 _ _ | assumption | exact zr_b _ | exact zcmp_r _ _ | exact hzD _ _ | exact zr3 (tS_b hW _) | exact zr3 (lsc_b hW _ _) | exact zr3 (sc_b hW _ _) | exact rkP_zr hW _ | exact scA_zr hW _ _ | exact zr3 (cW_b hW) | exact zr3 (wS_b hW) | exact zr3 (wS_b hWn) | (unfold zr at *; omega)) dL_acts_205 (by decide) (fun h205 => ?_) (fun h205 => ?_)
                      · exfalso; omega
                      · refine zx_iconst dL_acts_208 ?_
                        refine zx_goto (tgt := 268) dL_acts_209 (by decide) ?_
                        refine zx_iret rfl rfl dL_acts_268 ?_
                        rw [hQ]
                        refine ⟨congrArg (fun z : Int => (Sum.inl (some (zi z)) : Option zV ⊕ String)) ?_, ?_⟩
                        · first | rfl | assumption | omega
                        exact AP_e (aB_1 hu.2 (by omega)) (AP_d (zSame_rf _ _) hr189 (zSame_rf _ _) hz189)
                  · refine zy_csHR [zf 9 0, zi (y % 5), zi (1 + (x % 30)), zi (aV mk (y % 5) z), zi (1 + ((x + z) % 9))] (sL_does_addF  hfl hz hB hW (HN_j hN (zSame_rf _ _)) (HBA_j hA (zSame_rf _ _)) (by first | assumption | omega) (by first | assumption | omega) (by first | assumption | omega) (by first | assumption | omega)) dL_acts_189 cw_RL_231 okL_does rfl (Nat.le_of_ble_eq_true rfl) ⟨Nat.le_of_ble_eq_true rfl, Nat.le_of_ble_eq_true rfl, Nat.le_of_ble_eq_true rfl, Nat.le_of_ble_eq_true rfl⟩ (fun τ189 hr189 => ?_)
                    have hz189 : zOK τ189 := hr189.1
                    refine zy_istore [zf 9 0, zi mk, zi u, zi x, zi y, zi z, zi (D 12 0), zi (x % (D 12 0)), zi (y % 5), zi (aV mk (y % 5) z), zi (-103), zu, zu, zu] dL_acts_192 (Nat.le_of_ble_eq_true rfl) (Nat.le_of_ble_eq_true rfl) rfl rfl ?_
                    refine zx_iload dL_acts_194 rfl ?_
                    refine zx_bipush dL_acts_196 rfl ?_
                    refine zx_icmp_ne (tgt := 216) (by first | exact hz189 _ _ | assumption | exact zr_b _ | exact zcmp_r _ _ | exact hzD _ _ | exact zr3 (tS_b hW _) | exact zr3 (lsc_b hW _ _) | exact zr3 (sc_b hW _ _) | exact rkP_zr hW _ | exact scA_zr hW _ _ | exact zr3 (cW_b hW) | exact zr3 (wS_b hW) | exact zr3 (wS_b hWn) | (unfold zr at *; omega)) (by first | exact hz189 _ _ | assumption | exact zr_b _ | exact zcmp_r _ _ | exact hzD _ _ | exact zr3 (tS_b hW _) | exact zr3 (lsc_b hW _ _) | exact zr3 (sc_b hW _ _) | exact rkP_zr hW _ | exact scA_zr hW _ _ | exact zr3 (cW_b hW) | exact zr3 (wS_b hW) | exact zr3 (wS_b hWn) | (unfold zr at *; omega)) dL_acts_198 (by decide) (fun h198 => ?_) (fun h198 => ?_)
                    · exfalso; omega
                    · refine zx_iload dL_acts_201 rfl ?_
                      refine zx_bipush dL_acts_203 rfl ?_
                      refine zx_icmp_ne (tgt := 212) (by first | exact hz189 _ _ | assumption | exact zr_b _ | exact zcmp_r _ _ | exact hzD _ _ | exact zr3 (tS_b hW _) | exact zr3 (lsc_b hW _ _) | exact zr3 (sc_b hW _ _) | exact rkP_zr hW _ | exact scA_zr hW _ _ | exact zr3 (cW_b hW) | exact zr3 (wS_b hW) | exact zr3 (wS_b hWn) | (unfold zr at *; omega)) (by first | exact hz189 _ _ | assumption | exact zr_b _ | exact zcmp_r _ _ | exact hzD _ _ | exact zr3 (tS_b hW _) | exact zr3 (lsc_b hW _ _) | exact zr3 (sc_b hW _ _) | exact rkP_zr hW _ | exact scA_zr hW _ _ | exact zr3 (cW_b hW) | exact zr3 (wS_b hW) | exact zr3 (wS_b hWn) | (unfold zr at *; omega)) dL_acts_205 (by decide) (fun h205 => ?_) (fun h205 => ?_)
                      · exact absurd h205 (by decide)
                      · refine zx_iconst dL_acts_208 ?_
                        refine zx_goto (tgt := 268) dL_acts_209 (by decide) ?_
                        refine zx_iret rfl rfl dL_acts_268 ?_
                        rw [hQ]
                        refine ⟨congrArg (fun z : Int => (Sum.inl (some (zi z)) : Option zV ⊕ String)) ?_, ?_⟩
                        · first | rfl | assumption | omega
                        exact AP_e (aB_0 hu.2 (by omega)) (AP_f hW (zSame_rf _ _) hr189 (zSame_rf _ _) hz189 rfl)
                · refine zx_iload dL_acts_151 rfl ?_
                  refine zx_iconst dL_acts_153 ?_
                  refine zx_irem (by omega) (by omega) (by omega) (by omega) dL_acts_154 ?_
                  refine zy_top (b := aV mk (y % 5) z) ((by unfold aV; rw [if_neg h109, if_neg h122, if_neg h135, if_pos h148])) ?_
                  refine zx_goto (tgt := 167) dL_acts_155 (by decide) ?_
                  refine zy_istore [zf 9 0, zi mk, zi u, zi x, zi y, zi z, zi (D 12 0), zi (x % (D 12 0)), zi (y % 5), zi (aV mk (y % 5) z), zu, zu, zu, zu] dL_acts_167 (Nat.le_of_ble_eq_true rfl) (Nat.le_of_ble_eq_true rfl) rfl rfl ?_
                  refine zx_aloadN dL_acts_169 rfl rfl ?_
                  refine zx_iload dL_acts_170 rfl ?_
                  refine zx_iconst dL_acts_172 ?_
                  refine zx_iloadN dL_acts_173 rfl rfl ?_
                  refine zx_bipush dL_acts_174 rfl ?_
                  refine zx_irem (by omega) (by omega) (by omega) (by omega) dL_acts_176 ?_
                  refine zx_iadd dL_acts_177 ?_
                  refine zx_iload dL_acts_178 rfl ?_
                  refine zx_iconst dL_acts_180 ?_
                  refine zx_iloadN dL_acts_181 rfl rfl ?_
                  refine zx_iload dL_acts_182 rfl ?_
                  refine zx_iadd dL_acts_184 ?_
                  refine zx_bipush dL_acts_185 rfl ?_
                  refine zx_irem (by omega) (by omega) (by omega) (by omega) dL_acts_187 ?_
                  refine zx_iadd dL_acts_188 ?_
                  by_cases hb189 : D 12 0 < 40
                  · refine zy_csHR [zf 9 0, zi (y % 5), zi (1 + (x % 30)), zi (aV mk (y % 5) z), zi (1 + ((x + z) % 9))] (sL_does_add  hfl hz hB hW (HN_j hN (zSame_rf _ _)) (HBA_j hA (zSame_rf _ _)) (by first | assumption | omega) (by first | assumption | omega) (by first | assumption | omega) (by first | assumption | omega)) dL_acts_189 cw_RL_231 okL_does rfl (Nat.le_of_ble_eq_true rfl) ⟨Nat.le_of_ble_eq_true rfl, Nat.le_of_ble_eq_true rfl, Nat.le_of_ble_eq_true rfl, Nat.le_of_ble_eq_true rfl⟩ (fun τ189 hr189 => ?_)
                    have hz189 : zOK τ189 := hr189.1
                    have hl := hr189.2.2.2.2.2.2
                    have hWn := hr189.2.2.2.2.2.1
                    have hzDn := hzDof (rfl : bK τ189 = bK τ189) hz189
                    obtain ⟨e12, e14, e15, e17, e18⟩ := ad_post hl (by omega)
                    refine zy_istore [zf 9 0, zi mk, zi u, zi x, zi y, zi z, zi (D 12 0), zi (x % (D 12 0)), zi (y % 5), zi (aV mk (y % 5) z), zi (D 12 0), zu, zu, zu] dL_acts_192 (Nat.le_of_ble_eq_true rfl) (Nat.le_of_ble_eq_true rfl) rfl rfl ?_
                    refine zx_iload dL_acts_194 rfl ?_
                    refine zx_bipush dL_acts_196 rfl ?_
                    refine zx_icmp_ne (tgt := 216) (by first | exact hz189 _ _ | assumption | exact zr_b _ | exact zcmp_r _ _ | exact hzD _ _ | exact zr3 (tS_b hW _) | exact zr3 (lsc_b hW _ _) | exact zr3 (sc_b hW _ _) | exact rkP_zr hW _ | exact scA_zr hW _ _ | exact zr3 (cW_b hW) | exact zr3 (wS_b hW) | exact zr3 (wS_b hWn) | (unfold zr at *; omega)) (by first | exact hz189 _ _ | assumption | exact zr_b _ | exact zcmp_r _ _ | exact hzD _ _ | exact zr3 (tS_b hW _) | exact zr3 (lsc_b hW _ _) | exact zr3 (sc_b hW _ _) | exact rkP_zr hW _ | exact scA_zr hW _ _ | exact zr3 (cW_b hW) | exact zr3 (wS_b hW) | exact zr3 (wS_b hWn) | (unfold zr at *; omega)) dL_acts_198 (by decide) (fun h198 => ?_) (fun h198 => ?_)
                    · refine zx_iload dL_acts_216 rfl ?_
                      refine zx_iload dL_acts_218 rfl ?_
                      refine zx_icmp_ne (tgt := 267) (by first | exact hz189 _ _ | assumption | exact zr_b _ | exact zcmp_r _ _ | exact hzD _ _ | exact zr3 (tS_b hW _) | exact zr3 (lsc_b hW _ _) | exact zr3 (sc_b hW _ _) | exact rkP_zr hW _ | exact scA_zr hW _ _ | exact zr3 (cW_b hW) | exact zr3 (wS_b hW) | exact zr3 (wS_b hWn) | (unfold zr at *; omega)) (by first | exact hz189 _ _ | assumption | exact zr_b _ | exact zcmp_r _ _ | exact hzD _ _ | exact zr3 (tS_b hW _) | exact zr3 (lsc_b hW _ _) | exact zr3 (sc_b hW _ _) | exact rkP_zr hW _ | exact scA_zr hW _ _ | exact zr3 (cW_b hW) | exact zr3 (wS_b hW) | exact zr3 (wS_b hWn) | (unfold zr at *; omega)) dL_acts_220 (by decide) (fun h220 => ?_) (fun h220 => ?_)
                      · exfalso; omega
                      · refine zx_aloadN dL_acts_223 rfl rfl ?_
                        refine zx_iload dL_acts_224 rfl ?_
                        refine zy_cv [zi (D 12 0)] (fX9_isRead  hfl hz189 rfl hr189.2.2.2.2.2.1 (by first | exact hz189 _ _ | assumption | exact zr_b _ | exact zcmp_r _ _ | exact hzD _ _ | exact zr3 (tS_b hW _) | exact zr3 (lsc_b hW _ _) | exact zr3 (sc_b hW _ _) | exact rkP_zr hW _ | exact scA_zr hW _ _ | exact zr3 (cW_b hW) | exact zr3 (wS_b hW) | exact zr3 (wS_b hWn) | (unfold zr at *; omega)) (by first | assumption | omega)) dL_acts_226 (by decide) rfl cw_RL_122 okX9_isRead rfl (Nat.le_of_ble_eq_true rfl) ⟨Nat.le_of_ble_eq_true rfl, Nat.le_of_ble_eq_true rfl, Nat.le_of_ble_eq_true rfl, Nat.le_of_ble_eq_true rfl⟩ ?_
                        refine zx_if_ne (tgt := 267) (by first | exact hz189 _ _ | assumption | exact zr_b _ | exact zcmp_r _ _ | exact hzD _ _ | exact zr3 (tS_b hW _) | exact zr3 (lsc_b hW _ _) | exact zr3 (sc_b hW _ _) | exact rkP_zr hW _ | exact scA_zr hW _ _ | exact zr3 (cW_b hW) | exact zr3 (wS_b hW) | exact zr3 (wS_b hWn) | (unfold zr at *; omega)) dL_acts_229 (by decide) (fun h229 => ?_) (fun h229 => ?_)
                        · exfalso; omega
                        · refine zx_aloadN dL_acts_232 rfl rfl ?_
                          refine zx_iload dL_acts_233 rfl ?_
                          refine zy_cv [zi (D 12 0)] (fX9_isAside  hfl hz189 rfl hr189.2.2.2.2.2.1 (by first | exact hz189 _ _ | assumption | exact zr_b _ | exact zcmp_r _ _ | exact hzD _ _ | exact zr3 (tS_b hW _) | exact zr3 (lsc_b hW _ _) | exact zr3 (sc_b hW _ _) | exact rkP_zr hW _ | exact scA_zr hW _ _ | exact zr3 (cW_b hW) | exact zr3 (wS_b hW) | exact zr3 (wS_b hWn) | (unfold zr at *; omega)) (by first | assumption | omega)) dL_acts_235 (by decide) rfl cw_RL_128 okX9_isAside rfl (Nat.le_of_ble_eq_true rfl) ⟨Nat.le_of_ble_eq_true rfl, Nat.le_of_ble_eq_true rfl, Nat.le_of_ble_eq_true rfl, Nat.le_of_ble_eq_true rfl⟩ ?_
                          refine zx_if_ne (tgt := 267) (by first | exact hz189 _ _ | assumption | exact zr_b _ | exact zcmp_r _ _ | exact hzD _ _ | exact zr3 (tS_b hW _) | exact zr3 (lsc_b hW _ _) | exact zr3 (sc_b hW _ _) | exact rkP_zr hW _ | exact scA_zr hW _ _ | exact zr3 (cW_b hW) | exact zr3 (wS_b hW) | exact zr3 (wS_b hWn) | (unfold zr at *; omega)) dL_acts_238 (by decide) (fun h238 => ?_) (fun h238 => ?_)
                          · exfalso; omega
                          · refine zx_aloadN dL_acts_241 rfl rfl ?_
                            refine zx_iload dL_acts_242 rfl ?_
                            refine zy_cv [zi (D 12 0)] (fX9_kindOf  hfl hz189 rfl hr189.2.2.2.2.2.1 (by first | exact hz189 _ _ | assumption | exact zr_b _ | exact zcmp_r _ _ | exact hzD _ _ | exact zr3 (tS_b hW _) | exact zr3 (lsc_b hW _ _) | exact zr3 (sc_b hW _ _) | exact rkP_zr hW _ | exact scA_zr hW _ _ | exact zr3 (cW_b hW) | exact zr3 (wS_b hW) | exact zr3 (wS_b hWn) | (unfold zr at *; omega)) (by first | assumption | omega)) dL_acts_244 (by decide) rfl cw_RL_109 okX9_kindOf rfl (Nat.le_of_ble_eq_true rfl) ⟨Nat.le_of_ble_eq_true rfl, Nat.le_of_ble_eq_true rfl, Nat.le_of_ble_eq_true rfl, Nat.le_of_ble_eq_true rfl⟩ ?_
                            refine zx_iload dL_acts_247 rfl ?_
                            refine zx_icmp_ne (tgt := 267) (by first | exact hz189 _ _ | assumption | exact zr_b _ | exact zcmp_r _ _ | exact hzD _ _ | exact zr3 (tS_b hW _) | exact zr3 (lsc_b hW _ _) | exact zr3 (sc_b hW _ _) | exact rkP_zr hW _ | exact scA_zr hW _ _ | exact zr3 (cW_b hW) | exact zr3 (wS_b hW) | exact zr3 (wS_b hWn) | (unfold zr at *; omega)) (by first | exact hz189 _ _ | assumption | exact zr_b _ | exact zcmp_r _ _ | exact hzD _ _ | exact zr3 (tS_b hW _) | exact zr3 (lsc_b hW _ _) | exact zr3 (sc_b hW _ _) | exact rkP_zr hW _ | exact scA_zr hW _ _ | exact zr3 (cW_b hW) | exact zr3 (wS_b hW) | exact zr3 (wS_b hWn) | (unfold zr at *; omega)) dL_acts_249 (by decide) (fun h249 => ?_) (fun h249 => ?_)
                            · exfalso; omega
                            · refine zx_aloadN dL_acts_252 rfl rfl ?_
                              refine zx_iload dL_acts_253 rfl ?_
                              refine zy_cv [zi (D 12 0)] (fX9_valueOf  hfl hz189 rfl hr189.2.2.2.2.2.1 (by first | exact hz189 _ _ | assumption | exact zr_b _ | exact zcmp_r _ _ | exact hzD _ _ | exact zr3 (tS_b hW _) | exact zr3 (lsc_b hW _ _) | exact zr3 (sc_b hW _ _) | exact rkP_zr hW _ | exact scA_zr hW _ _ | exact zr3 (cW_b hW) | exact zr3 (wS_b hW) | exact zr3 (wS_b hWn) | (unfold zr at *; omega)) (by first | assumption | omega)) dL_acts_255 (by decide) rfl cw_RL_114 okX9_valueOf rfl (Nat.le_of_ble_eq_true rfl) ⟨Nat.le_of_ble_eq_true rfl, Nat.le_of_ble_eq_true rfl, Nat.le_of_ble_eq_true rfl, Nat.le_of_ble_eq_true rfl⟩ ?_
                              refine zx_iload dL_acts_258 rfl ?_
                              refine zx_icmp_ne (tgt := 267) (by first | exact hz189 _ _ | assumption | exact zr_b _ | exact zcmp_r _ _ | exact hzD _ _ | exact zr3 (tS_b hW _) | exact zr3 (lsc_b hW _ _) | exact zr3 (sc_b hW _ _) | exact rkP_zr hW _ | exact scA_zr hW _ _ | exact zr3 (cW_b hW) | exact zr3 (wS_b hW) | exact zr3 (wS_b hWn) | (unfold zr at *; omega)) (by first | exact hz189 _ _ | assumption | exact zr_b _ | exact zcmp_r _ _ | exact hzD _ _ | exact zr3 (tS_b hW _) | exact zr3 (lsc_b hW _ _) | exact zr3 (sc_b hW _ _) | exact rkP_zr hW _ | exact scA_zr hW _ _ | exact zr3 (cW_b hW) | exact zr3 (wS_b hW) | exact zr3 (wS_b hWn) | (unfold zr at *; omega)) dL_acts_260 (by decide) (fun h260 => ?_) (fun h260 => ?_)
                              · exfalso; omega
                              · refine zx_iconst dL_acts_263 ?_
                                refine zx_goto (tgt := 268) dL_acts_264 (by decide) ?_
                                refine zx_iret rfl rfl dL_acts_268 ?_
                                rw [hQ]
                                refine ⟨congrArg (fun z : Int => (Sum.inl (some (zi z)) : Option zV ⊕ String)) ?_, ?_⟩
                                · first | rfl | assumption | omega
                                exact AP_e (aB_1 hu.2 (by omega)) (AP_d (zSame_rf _ _) hr189 (zSame_rf _ _) hz189)
                    · refine zx_iload dL_acts_201 rfl ?_
                      refine zx_bipush dL_acts_203 rfl ?_
                      refine zx_icmp_ne (tgt := 212) (by first | exact hz189 _ _ | assumption | exact zr_b _ | exact zcmp_r _ _ | exact hzD _ _ | exact zr3 (tS_b hW _) | exact zr3 (lsc_b hW _ _) | exact zr3 (sc_b hW _ _) | exact rkP_zr hW _ | exact scA_zr hW _ _ | exact zr3 (cW_b hW) | exact zr3 (wS_b hW) | exact zr3 (wS_b hWn) | (unfold zr at *; omega)) (by first | exact hz189 _ _ | assumption | exact zr_b _ | exact zcmp_r _ _ | exact hzD _ _ | exact zr3 (tS_b hW _) | exact zr3 (lsc_b hW _ _) | exact zr3 (sc_b hW _ _) | exact rkP_zr hW _ | exact scA_zr hW _ _ | exact zr3 (cW_b hW) | exact zr3 (wS_b hW) | exact zr3 (wS_b hWn) | (unfold zr at *; omega)) dL_acts_205 (by decide) (fun h205 => ?_) (fun h205 => ?_)
                      · exfalso; omega
                      · refine zx_iconst dL_acts_208 ?_
                        refine zx_goto (tgt := 268) dL_acts_209 (by decide) ?_
                        refine zx_iret rfl rfl dL_acts_268 ?_
                        rw [hQ]
                        refine ⟨congrArg (fun z : Int => (Sum.inl (some (zi z)) : Option zV ⊕ String)) ?_, ?_⟩
                        · first | rfl | assumption | omega
                        exact AP_e (aB_1 hu.2 (by omega)) (AP_d (zSame_rf _ _) hr189 (zSame_rf _ _) hz189)
                  · refine zy_csHR [zf 9 0, zi (y % 5), zi (1 + (x % 30)), zi (aV mk (y % 5) z), zi (1 + ((x + z) % 9))] (sL_does_addF  hfl hz hB hW (HN_j hN (zSame_rf _ _)) (HBA_j hA (zSame_rf _ _)) (by first | assumption | omega) (by first | assumption | omega) (by first | assumption | omega) (by first | assumption | omega)) dL_acts_189 cw_RL_231 okL_does rfl (Nat.le_of_ble_eq_true rfl) ⟨Nat.le_of_ble_eq_true rfl, Nat.le_of_ble_eq_true rfl, Nat.le_of_ble_eq_true rfl, Nat.le_of_ble_eq_true rfl⟩ (fun τ189 hr189 => ?_)
                    have hz189 : zOK τ189 := hr189.1
                    refine zy_istore [zf 9 0, zi mk, zi u, zi x, zi y, zi z, zi (D 12 0), zi (x % (D 12 0)), zi (y % 5), zi (aV mk (y % 5) z), zi (-103), zu, zu, zu] dL_acts_192 (Nat.le_of_ble_eq_true rfl) (Nat.le_of_ble_eq_true rfl) rfl rfl ?_
                    refine zx_iload dL_acts_194 rfl ?_
                    refine zx_bipush dL_acts_196 rfl ?_
                    refine zx_icmp_ne (tgt := 216) (by first | exact hz189 _ _ | assumption | exact zr_b _ | exact zcmp_r _ _ | exact hzD _ _ | exact zr3 (tS_b hW _) | exact zr3 (lsc_b hW _ _) | exact zr3 (sc_b hW _ _) | exact rkP_zr hW _ | exact scA_zr hW _ _ | exact zr3 (cW_b hW) | exact zr3 (wS_b hW) | exact zr3 (wS_b hWn) | (unfold zr at *; omega)) (by first | exact hz189 _ _ | assumption | exact zr_b _ | exact zcmp_r _ _ | exact hzD _ _ | exact zr3 (tS_b hW _) | exact zr3 (lsc_b hW _ _) | exact zr3 (sc_b hW _ _) | exact rkP_zr hW _ | exact scA_zr hW _ _ | exact zr3 (cW_b hW) | exact zr3 (wS_b hW) | exact zr3 (wS_b hWn) | (unfold zr at *; omega)) dL_acts_198 (by decide) (fun h198 => ?_) (fun h198 => ?_)
                    · exfalso; omega
                    · refine zx_iload dL_acts_201 rfl ?_
                      refine zx_bipush dL_acts_203 rfl ?_
                      refine zx_icmp_ne (tgt := 212) (by first | exact hz189 _ _ | assumption | exact zr_b _ | exact zcmp_r _ _ | exact hzD _ _ | exact zr3 (tS_b hW _) | exact zr3 (lsc_b hW _ _) | exact zr3 (sc_b hW _ _) | exact rkP_zr hW _ | exact scA_zr hW _ _ | exact zr3 (cW_b hW) | exact zr3 (wS_b hW) | exact zr3 (wS_b hWn) | (unfold zr at *; omega)) (by first | exact hz189 _ _ | assumption | exact zr_b _ | exact zcmp_r _ _ | exact hzD _ _ | exact zr3 (tS_b hW _) | exact zr3 (lsc_b hW _ _) | exact zr3 (sc_b hW _ _) | exact rkP_zr hW _ | exact scA_zr hW _ _ | exact zr3 (cW_b hW) | exact zr3 (wS_b hW) | exact zr3 (wS_b hWn) | (unfold zr at *; omega)) dL_acts_205 (by decide) (fun h205 => ?_) (fun h205 => ?_)
                      · exact absurd h205 (by decide)
                      · refine zx_iconst dL_acts_208 ?_
                        refine zx_goto (tgt := 268) dL_acts_209 (by decide) ?_
                        refine zx_iret rfl rfl dL_acts_268 ?_
                        rw [hQ]
                        refine ⟨congrArg (fun z : Int => (Sum.inl (some (zi z)) : Option zV ⊕ String)) ?_, ?_⟩
                        · first | rfl | assumption | omega
                        exact AP_e (aB_0 hu.2 (by omega)) (AP_f hW (zSame_rf _ _) hr189 (zSame_rf _ _) hz189 rfl)
              · refine zx_iload dL_acts_138 rfl ?_
                refine zx_iloadN dL_acts_140 rfl rfl ?_
                refine zx_irem (by omega) (by omega) (by omega) (by omega) dL_acts_141 ?_
                refine zy_top (b := aV mk (y % 5) z) ((by unfold aV; rw [if_neg h109, if_neg h122, if_pos h135])) ?_
                refine zx_goto (tgt := 167) dL_acts_142 (by decide) ?_
                refine zy_istore [zf 9 0, zi mk, zi u, zi x, zi y, zi z, zi (D 12 0), zi (x % (D 12 0)), zi (y % 5), zi (aV mk (y % 5) z), zu, zu, zu, zu] dL_acts_167 (Nat.le_of_ble_eq_true rfl) (Nat.le_of_ble_eq_true rfl) rfl rfl ?_
                refine zx_aloadN dL_acts_169 rfl rfl ?_
                refine zx_iload dL_acts_170 rfl ?_
                refine zx_iconst dL_acts_172 ?_
                refine zx_iloadN dL_acts_173 rfl rfl ?_
                refine zx_bipush dL_acts_174 rfl ?_
                refine zx_irem (by omega) (by omega) (by omega) (by omega) dL_acts_176 ?_
                refine zx_iadd dL_acts_177 ?_
                refine zx_iload dL_acts_178 rfl ?_
                refine zx_iconst dL_acts_180 ?_
                refine zx_iloadN dL_acts_181 rfl rfl ?_
                refine zx_iload dL_acts_182 rfl ?_
                refine zx_iadd dL_acts_184 ?_
                refine zx_bipush dL_acts_185 rfl ?_
                refine zx_irem (by omega) (by omega) (by omega) (by omega) dL_acts_187 ?_
                refine zx_iadd dL_acts_188 ?_
                by_cases hb189 : D 12 0 < 40
                · refine zy_csHR [zf 9 0, zi (y % 5), zi (1 + (x % 30)), zi (aV mk (y % 5) z), zi (1 + ((x + z) % 9))] (sL_does_add  hfl hz hB hW (HN_j hN (zSame_rf _ _)) (HBA_j hA (zSame_rf _ _)) (by first | assumption | omega) (by first | assumption | omega) (by first | assumption | omega) (by first | assumption | omega)) dL_acts_189 cw_RL_231 okL_does rfl (Nat.le_of_ble_eq_true rfl) ⟨Nat.le_of_ble_eq_true rfl, Nat.le_of_ble_eq_true rfl, Nat.le_of_ble_eq_true rfl, Nat.le_of_ble_eq_true rfl⟩ (fun τ189 hr189 => ?_)
                  have hz189 : zOK τ189 := hr189.1
                  have hl := hr189.2.2.2.2.2.2
                  have hWn := hr189.2.2.2.2.2.1
                  have hzDn := hzDof (rfl : bK τ189 = bK τ189) hz189
                  obtain ⟨e12, e14, e15, e17, e18⟩ := ad_post hl (by omega)
                  refine zy_istore [zf 9 0, zi mk, zi u, zi x, zi y, zi z, zi (D 12 0), zi (x % (D 12 0)), zi (y % 5), zi (aV mk (y % 5) z), zi (D 12 0), zu, zu, zu] dL_acts_192 (Nat.le_of_ble_eq_true rfl) (Nat.le_of_ble_eq_true rfl) rfl rfl ?_
                  refine zx_iload dL_acts_194 rfl ?_
                  refine zx_bipush dL_acts_196 rfl ?_
                  refine zx_icmp_ne (tgt := 216) (by first | exact hz189 _ _ | assumption | exact zr_b _ | exact zcmp_r _ _ | exact hzD _ _ | exact zr3 (tS_b hW _) | exact zr3 (lsc_b hW _ _) | exact zr3 (sc_b hW _ _) | exact rkP_zr hW _ | exact scA_zr hW _ _ | exact zr3 (cW_b hW) | exact zr3 (wS_b hW) | exact zr3 (wS_b hWn) | (unfold zr at *; omega)) (by first | exact hz189 _ _ | assumption | exact zr_b _ | exact zcmp_r _ _ | exact hzD _ _ | exact zr3 (tS_b hW _) | exact zr3 (lsc_b hW _ _) | exact zr3 (sc_b hW _ _) | exact rkP_zr hW _ | exact scA_zr hW _ _ | exact zr3 (cW_b hW) | exact zr3 (wS_b hW) | exact zr3 (wS_b hWn) | (unfold zr at *; omega)) dL_acts_198 (by decide) (fun h198 => ?_) (fun h198 => ?_)
                  · refine zx_iload dL_acts_216 rfl ?_
                    refine zx_iload dL_acts_218 rfl ?_
                    refine zx_icmp_ne (tgt := 267) (by first | exact hz189 _ _ | assumption | exact zr_b _ | exact zcmp_r _ _ | exact hzD _ _ | exact zr3 (tS_b hW _) | exact zr3 (lsc_b hW _ _) | exact zr3 (sc_b hW _ _) | exact rkP_zr hW _ | exact scA_zr hW _ _ | exact zr3 (cW_b hW) | exact zr3 (wS_b hW) | exact zr3 (wS_b hWn) | (unfold zr at *; omega)) (by first | exact hz189 _ _ | assumption | exact zr_b _ | exact zcmp_r _ _ | exact hzD _ _ | exact zr3 (tS_b hW _) | exact zr3 (lsc_b hW _ _) | exact zr3 (sc_b hW _ _) | exact rkP_zr hW _ | exact scA_zr hW _ _ | exact zr3 (cW_b hW) | exact zr3 (wS_b hW) | exact zr3 (wS_b hWn) | (unfold zr at *; omega)) dL_acts_220 (by decide) (fun h220 => ?_) (fun h220 => ?_)
                    · exfalso; omega
                    · refine zx_aloadN dL_acts_223 rfl rfl ?_
                      refine zx_iload dL_acts_224 rfl ?_
                      refine zy_cv [zi (D 12 0)] (fX9_isRead  hfl hz189 rfl hr189.2.2.2.2.2.1 (by first | exact hz189 _ _ | assumption | exact zr_b _ | exact zcmp_r _ _ | exact hzD _ _ | exact zr3 (tS_b hW _) | exact zr3 (lsc_b hW _ _) | exact zr3 (sc_b hW _ _) | exact rkP_zr hW _ | exact scA_zr hW _ _ | exact zr3 (cW_b hW) | exact zr3 (wS_b hW) | exact zr3 (wS_b hWn) | (unfold zr at *; omega)) (by first | assumption | omega)) dL_acts_226 (by decide) rfl cw_RL_122 okX9_isRead rfl (Nat.le_of_ble_eq_true rfl) ⟨Nat.le_of_ble_eq_true rfl, Nat.le_of_ble_eq_true rfl, Nat.le_of_ble_eq_true rfl, Nat.le_of_ble_eq_true rfl⟩ ?_
                      refine zx_if_ne (tgt := 267) (by first | exact hz189 _ _ | assumption | exact zr_b _ | exact zcmp_r _ _ | exact hzD _ _ | exact zr3 (tS_b hW _) | exact zr3 (lsc_b hW _ _) | exact zr3 (sc_b hW _ _) | exact rkP_zr hW _ | exact scA_zr hW _ _ | exact zr3 (cW_b hW) | exact zr3 (wS_b hW) | exact zr3 (wS_b hWn) | (unfold zr at *; omega)) dL_acts_229 (by decide) (fun h229 => ?_) (fun h229 => ?_)
                      · exfalso; omega
                      · refine zx_aloadN dL_acts_232 rfl rfl ?_
                        refine zx_iload dL_acts_233 rfl ?_
                        refine zy_cv [zi (D 12 0)] (fX9_isAside  hfl hz189 rfl hr189.2.2.2.2.2.1 (by first | exact hz189 _ _ | assumption | exact zr_b _ | exact zcmp_r _ _ | exact hzD _ _ | exact zr3 (tS_b hW _) | exact zr3 (lsc_b hW _ _) | exact zr3 (sc_b hW _ _) | exact rkP_zr hW _ | exact scA_zr hW _ _ | exact zr3 (cW_b hW) | exact zr3 (wS_b hW) | exact zr3 (wS_b hWn) | (unfold zr at *; omega)) (by first | assumption | omega)) dL_acts_235 (by decide) rfl cw_RL_128 okX9_isAside rfl (Nat.le_of_ble_eq_true rfl) ⟨Nat.le_of_ble_eq_true rfl, Nat.le_of_ble_eq_true rfl, Nat.le_of_ble_eq_true rfl, Nat.le_of_ble_eq_true rfl⟩ ?_
                        refine zx_if_ne (tgt := 267) (by first | exact hz189 _ _ | assumption | exact zr_b _ | exact zcmp_r _ _ | exact hzD _ _ | exact zr3 (tS_b hW _) | exact zr3 (lsc_b hW _ _) | exact zr3 (sc_b hW _ _) | exact rkP_zr hW _ | exact scA_zr hW _ _ | exact zr3 (cW_b hW) | exact zr3 (wS_b hW) | exact zr3 (wS_b hWn) | (unfold zr at *; omega)) dL_acts_238 (by decide) (fun h238 => ?_) (fun h238 => ?_)
                        · exfalso; omega
                        · refine zx_aloadN dL_acts_241 rfl rfl ?_
                          refine zx_iload dL_acts_242 rfl ?_
                          refine zy_cv [zi (D 12 0)] (fX9_kindOf  hfl hz189 rfl hr189.2.2.2.2.2.1 (by first | exact hz189 _ _ | assumption | exact zr_b _ | exact zcmp_r _ _ | exact hzD _ _ | exact zr3 (tS_b hW _) | exact zr3 (lsc_b hW _ _) | exact zr3 (sc_b hW _ _) | exact rkP_zr hW _ | exact scA_zr hW _ _ | exact zr3 (cW_b hW) | exact zr3 (wS_b hW) | exact zr3 (wS_b hWn) | (unfold zr at *; omega)) (by first | assumption | omega)) dL_acts_244 (by decide) rfl cw_RL_109 okX9_kindOf rfl (Nat.le_of_ble_eq_true rfl) ⟨Nat.le_of_ble_eq_true rfl, Nat.le_of_ble_eq_true rfl, Nat.le_of_ble_eq_true rfl, Nat.le_of_ble_eq_true rfl⟩ ?_
                          refine zx_iload dL_acts_247 rfl ?_
                          refine zx_icmp_ne (tgt := 267) (by first | exact hz189 _ _ | assumption | exact zr_b _ | exact zcmp_r _ _ | exact hzD _ _ | exact zr3 (tS_b hW _) | exact zr3 (lsc_b hW _ _) | exact zr3 (sc_b hW _ _) | exact rkP_zr hW _ | exact scA_zr hW _ _ | exact zr3 (cW_b hW) | exact zr3 (wS_b hW) | exact zr3 (wS_b hWn) | (unfold zr at *; omega)) (by first | exact hz189 _ _ | assumption | exact zr_b _ | exact zcmp_r _ _ | exact hzD _ _ | exact zr3 (tS_b hW _) | exact zr3 (lsc_b hW _ _) | exact zr3 (sc_b hW _ _) | exact rkP_zr hW _ | exact scA_zr hW _ _ | exact zr3 (cW_b hW) | exact zr3 (wS_b hW) | exact zr3 (wS_b hWn) | (unfold zr at *; omega)) dL_acts_249 (by decide) (fun h249 => ?_) (fun h249 => ?_)
                          · exfalso; omega
                          · refine zx_aloadN dL_acts_252 rfl rfl ?_
                            refine zx_iload dL_acts_253 rfl ?_
                            refine zy_cv [zi (D 12 0)] (fX9_valueOf  hfl hz189 rfl hr189.2.2.2.2.2.1 (by first | exact hz189 _ _ | assumption | exact zr_b _ | exact zcmp_r _ _ | exact hzD _ _ | exact zr3 (tS_b hW _) | exact zr3 (lsc_b hW _ _) | exact zr3 (sc_b hW _ _) | exact rkP_zr hW _ | exact scA_zr hW _ _ | exact zr3 (cW_b hW) | exact zr3 (wS_b hW) | exact zr3 (wS_b hWn) | (unfold zr at *; omega)) (by first | assumption | omega)) dL_acts_255 (by decide) rfl cw_RL_114 okX9_valueOf rfl (Nat.le_of_ble_eq_true rfl) ⟨Nat.le_of_ble_eq_true rfl, Nat.le_of_ble_eq_true rfl, Nat.le_of_ble_eq_true rfl, Nat.le_of_ble_eq_true rfl⟩ ?_
                            refine zx_iload dL_acts_258 rfl ?_
                            refine zx_icmp_ne (tgt := 267) (by first | exact hz189 _ _ | assumption | exact zr_b _ | exact zcmp_r _ _ | exact hzD _ _ | exact zr3 (tS_b hW _) | exact zr3 (lsc_b hW _ _) | exact zr3 (sc_b hW _ _) | exact rkP_zr hW _ | exact scA_zr hW _ _ | exact zr3 (cW_b hW) | exact zr3 (wS_b hW) | exact zr3 (wS_b hWn) | (unfold zr at *; omega)) (by first | exact hz189 _ _ | assumption | exact zr_b _ | exact zcmp_r _ _ | exact hzD _ _ | exact zr3 (tS_b hW _) | exact zr3 (lsc_b hW _ _) | exact zr3 (sc_b hW _ _) | exact rkP_zr hW _ | exact scA_zr hW _ _ | exact zr3 (cW_b hW) | exact zr3 (wS_b hW) | exact zr3 (wS_b hWn) | (unfold zr at *; omega)) dL_acts_260 (by decide) (fun h260 => ?_) (fun h260 => ?_)
                            · exfalso; omega
                            · refine zx_iconst dL_acts_263 ?_
                              refine zx_goto (tgt := 268) dL_acts_264 (by decide) ?_
                              refine zx_iret rfl rfl dL_acts_268 ?_
                              rw [hQ]
                              refine ⟨congrArg (fun z : Int => (Sum.inl (some (zi z)) : Option zV ⊕ String)) ?_, ?_⟩
                              · first | rfl | assumption | omega
                              exact AP_e (aB_1 hu.2 (by omega)) (AP_d (zSame_rf _ _) hr189 (zSame_rf _ _) hz189)
                  · refine zx_iload dL_acts_201 rfl ?_
                    refine zx_bipush dL_acts_203 rfl ?_
                    refine zx_icmp_ne (tgt := 212) (by first | exact hz189 _ _ | assumption | exact zr_b _ | exact zcmp_r _ _ | exact hzD _ _ | exact zr3 (tS_b hW _) | exact zr3 (lsc_b hW _ _) | exact zr3 (sc_b hW _ _) | exact rkP_zr hW _ | exact scA_zr hW _ _ | exact zr3 (cW_b hW) | exact zr3 (wS_b hW) | exact zr3 (wS_b hWn) | (unfold zr at *; omega)) (by first | exact hz189 _ _ | assumption | exact zr_b _ | exact zcmp_r _ _ | exact hzD _ _ | exact zr3 (tS_b hW _) | exact zr3 (lsc_b hW _ _) | exact zr3 (sc_b hW _ _) | exact rkP_zr hW _ | exact scA_zr hW _ _ | exact zr3 (cW_b hW) | exact zr3 (wS_b hW) | exact zr3 (wS_b hWn) | (unfold zr at *; omega)) dL_acts_205 (by decide) (fun h205 => ?_) (fun h205 => ?_)
                    · exfalso; omega
                    · refine zx_iconst dL_acts_208 ?_
                      refine zx_goto (tgt := 268) dL_acts_209 (by decide) ?_
                      refine zx_iret rfl rfl dL_acts_268 ?_
                      rw [hQ]
                      refine ⟨congrArg (fun z : Int => (Sum.inl (some (zi z)) : Option zV ⊕ String)) ?_, ?_⟩
                      · first | rfl | assumption | omega
                      exact AP_e (aB_1 hu.2 (by omega)) (AP_d (zSame_rf _ _) hr189 (zSame_rf _ _) hz189)
                · refine zy_csHR [zf 9 0, zi (y % 5), zi (1 + (x % 30)), zi (aV mk (y % 5) z), zi (1 + ((x + z) % 9))] (sL_does_addF  hfl hz hB hW (HN_j hN (zSame_rf _ _)) (HBA_j hA (zSame_rf _ _)) (by first | assumption | omega) (by first | assumption | omega) (by first | assumption | omega) (by first | assumption | omega)) dL_acts_189 cw_RL_231 okL_does rfl (Nat.le_of_ble_eq_true rfl) ⟨Nat.le_of_ble_eq_true rfl, Nat.le_of_ble_eq_true rfl, Nat.le_of_ble_eq_true rfl, Nat.le_of_ble_eq_true rfl⟩ (fun τ189 hr189 => ?_)
                  have hz189 : zOK τ189 := hr189.1
                  refine zy_istore [zf 9 0, zi mk, zi u, zi x, zi y, zi z, zi (D 12 0), zi (x % (D 12 0)), zi (y % 5), zi (aV mk (y % 5) z), zi (-103), zu, zu, zu] dL_acts_192 (Nat.le_of_ble_eq_true rfl) (Nat.le_of_ble_eq_true rfl) rfl rfl ?_
                  refine zx_iload dL_acts_194 rfl ?_
                  refine zx_bipush dL_acts_196 rfl ?_
                  refine zx_icmp_ne (tgt := 216) (by first | exact hz189 _ _ | assumption | exact zr_b _ | exact zcmp_r _ _ | exact hzD _ _ | exact zr3 (tS_b hW _) | exact zr3 (lsc_b hW _ _) | exact zr3 (sc_b hW _ _) | exact rkP_zr hW _ | exact scA_zr hW _ _ | exact zr3 (cW_b hW) | exact zr3 (wS_b hW) | exact zr3 (wS_b hWn) | (unfold zr at *; omega)) (by first | exact hz189 _ _ | assumption | exact zr_b _ | exact zcmp_r _ _ | exact hzD _ _ | exact zr3 (tS_b hW _) | exact zr3 (lsc_b hW _ _) | exact zr3 (sc_b hW _ _) | exact rkP_zr hW _ | exact scA_zr hW _ _ | exact zr3 (cW_b hW) | exact zr3 (wS_b hW) | exact zr3 (wS_b hWn) | (unfold zr at *; omega)) dL_acts_198 (by decide) (fun h198 => ?_) (fun h198 => ?_)
                  · exfalso; omega
                  · refine zx_iload dL_acts_201 rfl ?_
                    refine zx_bipush dL_acts_203 rfl ?_
                    refine zx_icmp_ne (tgt := 212) (by first | exact hz189 _ _ | assumption | exact zr_b _ | exact zcmp_r _ _ | exact hzD _ _ | exact zr3 (tS_b hW _) | exact zr3 (lsc_b hW _ _) | exact zr3 (sc_b hW _ _) | exact rkP_zr hW _ | exact scA_zr hW _ _ | exact zr3 (cW_b hW) | exact zr3 (wS_b hW) | exact zr3 (wS_b hWn) | (unfold zr at *; omega)) (by first | exact hz189 _ _ | assumption | exact zr_b _ | exact zcmp_r _ _ | exact hzD _ _ | exact zr3 (tS_b hW _) | exact zr3 (lsc_b hW _ _) | exact zr3 (sc_b hW _ _) | exact rkP_zr hW _ | exact scA_zr hW _ _ | exact zr3 (cW_b hW) | exact zr3 (wS_b hW) | exact zr3 (wS_b hWn) | (unfold zr at *; omega)) dL_acts_205 (by decide) (fun h205 => ?_) (fun h205 => ?_)
                    · exact absurd h205 (by decide)
                    · refine zx_iconst dL_acts_208 ?_
                      refine zx_goto (tgt := 268) dL_acts_209 (by decide) ?_
                      refine zx_iret rfl rfl dL_acts_268 ?_
                      rw [hQ]
                      refine ⟨congrArg (fun z : Int => (Sum.inl (some (zi z)) : Option zV ⊕ String)) ?_, ?_⟩
                      · first | rfl | assumption | omega
                      exact AP_e (aB_0 hu.2 (by omega)) (AP_f hW (zSame_rf _ _) hr189 (zSame_rf _ _) hz189 rfl)
            · refine zx_iload dL_acts_125 rfl ?_
              refine zx_iconst dL_acts_127 ?_
              refine zx_irem (by omega) (by omega) (by omega) (by omega) dL_acts_128 ?_
              refine zy_top (b := aV mk (y % 5) z) ((by unfold aV; rw [if_neg h109, if_pos h122])) ?_
              refine zx_goto (tgt := 167) dL_acts_129 (by decide) ?_
              refine zy_istore [zf 9 0, zi mk, zi u, zi x, zi y, zi z, zi (D 12 0), zi (x % (D 12 0)), zi (y % 5), zi (aV mk (y % 5) z), zu, zu, zu, zu] dL_acts_167 (Nat.le_of_ble_eq_true rfl) (Nat.le_of_ble_eq_true rfl) rfl rfl ?_
              refine zx_aloadN dL_acts_169 rfl rfl ?_
              refine zx_iload dL_acts_170 rfl ?_
              refine zx_iconst dL_acts_172 ?_
              refine zx_iloadN dL_acts_173 rfl rfl ?_
              refine zx_bipush dL_acts_174 rfl ?_
              refine zx_irem (by omega) (by omega) (by omega) (by omega) dL_acts_176 ?_
              refine zx_iadd dL_acts_177 ?_
              refine zx_iload dL_acts_178 rfl ?_
              refine zx_iconst dL_acts_180 ?_
              refine zx_iloadN dL_acts_181 rfl rfl ?_
              refine zx_iload dL_acts_182 rfl ?_
              refine zx_iadd dL_acts_184 ?_
              refine zx_bipush dL_acts_185 rfl ?_
              refine zx_irem (by omega) (by omega) (by omega) (by omega) dL_acts_187 ?_
              refine zx_iadd dL_acts_188 ?_
              by_cases hb189 : D 12 0 < 40
              · refine zy_csHR [zf 9 0, zi (y % 5), zi (1 + (x % 30)), zi (aV mk (y % 5) z), zi (1 + ((x + z) % 9))] (sL_does_add  hfl hz hB hW (HN_j hN (zSame_rf _ _)) (HBA_j hA (zSame_rf _ _)) (by first | assumption | omega) (by first | assumption | omega) (by first | assumption | omega) (by first | assumption | omega)) dL_acts_189 cw_RL_231 okL_does rfl (Nat.le_of_ble_eq_true rfl) ⟨Nat.le_of_ble_eq_true rfl, Nat.le_of_ble_eq_true rfl, Nat.le_of_ble_eq_true rfl, Nat.le_of_ble_eq_true rfl⟩ (fun τ189 hr189 => ?_)
                have hz189 : zOK τ189 := hr189.1
                have hl := hr189.2.2.2.2.2.2
                have hWn := hr189.2.2.2.2.2.1
                have hzDn := hzDof (rfl : bK τ189 = bK τ189) hz189
                obtain ⟨e12, e14, e15, e17, e18⟩ := ad_post hl (by omega)
                refine zy_istore [zf 9 0, zi mk, zi u, zi x, zi y, zi z, zi (D 12 0), zi (x % (D 12 0)), zi (y % 5), zi (aV mk (y % 5) z), zi (D 12 0), zu, zu, zu] dL_acts_192 (Nat.le_of_ble_eq_true rfl) (Nat.le_of_ble_eq_true rfl) rfl rfl ?_
                refine zx_iload dL_acts_194 rfl ?_
                refine zx_bipush dL_acts_196 rfl ?_
                refine zx_icmp_ne (tgt := 216) (by first | exact hz189 _ _ | assumption | exact zr_b _ | exact zcmp_r _ _ | exact hzD _ _ | exact zr3 (tS_b hW _) | exact zr3 (lsc_b hW _ _) | exact zr3 (sc_b hW _ _) | exact rkP_zr hW _ | exact scA_zr hW _ _ | exact zr3 (cW_b hW) | exact zr3 (wS_b hW) | exact zr3 (wS_b hWn) | (unfold zr at *; omega)) (by first | exact hz189 _ _ | assumption | exact zr_b _ | exact zcmp_r _ _ | exact hzD _ _ | exact zr3 (tS_b hW _) | exact zr3 (lsc_b hW _ _) | exact zr3 (sc_b hW _ _) | exact rkP_zr hW _ | exact scA_zr hW _ _ | exact zr3 (cW_b hW) | exact zr3 (wS_b hW) | exact zr3 (wS_b hWn) | (unfold zr at *; omega)) dL_acts_198 (by decide) (fun h198 => ?_) (fun h198 => ?_)
                · refine zx_iload dL_acts_216 rfl ?_
                  refine zx_iload dL_acts_218 rfl ?_
                  refine zx_icmp_ne (tgt := 267) (by first | exact hz189 _ _ | assumption | exact zr_b _ | exact zcmp_r _ _ | exact hzD _ _ | exact zr3 (tS_b hW _) | exact zr3 (lsc_b hW _ _) | exact zr3 (sc_b hW _ _) | exact rkP_zr hW _ | exact scA_zr hW _ _ | exact zr3 (cW_b hW) | exact zr3 (wS_b hW) | exact zr3 (wS_b hWn) | (unfold zr at *; omega)) (by first | exact hz189 _ _ | assumption | exact zr_b _ | exact zcmp_r _ _ | exact hzD _ _ | exact zr3 (tS_b hW _) | exact zr3 (lsc_b hW _ _) | exact zr3 (sc_b hW _ _) | exact rkP_zr hW _ | exact scA_zr hW _ _ | exact zr3 (cW_b hW) | exact zr3 (wS_b hW) | exact zr3 (wS_b hWn) | (unfold zr at *; omega)) dL_acts_220 (by decide) (fun h220 => ?_) (fun h220 => ?_)
                  · exfalso; omega
                  · refine zx_aloadN dL_acts_223 rfl rfl ?_
                    refine zx_iload dL_acts_224 rfl ?_
                    refine zy_cv [zi (D 12 0)] (fX9_isRead  hfl hz189 rfl hr189.2.2.2.2.2.1 (by first | exact hz189 _ _ | assumption | exact zr_b _ | exact zcmp_r _ _ | exact hzD _ _ | exact zr3 (tS_b hW _) | exact zr3 (lsc_b hW _ _) | exact zr3 (sc_b hW _ _) | exact rkP_zr hW _ | exact scA_zr hW _ _ | exact zr3 (cW_b hW) | exact zr3 (wS_b hW) | exact zr3 (wS_b hWn) | (unfold zr at *; omega)) (by first | assumption | omega)) dL_acts_226 (by decide) rfl cw_RL_122 okX9_isRead rfl (Nat.le_of_ble_eq_true rfl) ⟨Nat.le_of_ble_eq_true rfl, Nat.le_of_ble_eq_true rfl, Nat.le_of_ble_eq_true rfl, Nat.le_of_ble_eq_true rfl⟩ ?_
                    refine zx_if_ne (tgt := 267) (by first | exact hz189 _ _ | assumption | exact zr_b _ | exact zcmp_r _ _ | exact hzD _ _ | exact zr3 (tS_b hW _) | exact zr3 (lsc_b hW _ _) | exact zr3 (sc_b hW _ _) | exact rkP_zr hW _ | exact scA_zr hW _ _ | exact zr3 (cW_b hW) | exact zr3 (wS_b hW) | exact zr3 (wS_b hWn) | (unfold zr at *; omega)) dL_acts_229 (by decide) (fun h229 => ?_) (fun h229 => ?_)
                    · exfalso; omega
                    · refine zx_aloadN dL_acts_232 rfl rfl ?_
                      refine zx_iload dL_acts_233 rfl ?_
                      refine zy_cv [zi (D 12 0)] (fX9_isAside  hfl hz189 rfl hr189.2.2.2.2.2.1 (by first | exact hz189 _ _ | assumption | exact zr_b _ | exact zcmp_r _ _ | exact hzD _ _ | exact zr3 (tS_b hW _) | exact zr3 (lsc_b hW _ _) | exact zr3 (sc_b hW _ _) | exact rkP_zr hW _ | exact scA_zr hW _ _ | exact zr3 (cW_b hW) | exact zr3 (wS_b hW) | exact zr3 (wS_b hWn) | (unfold zr at *; omega)) (by first | assumption | omega)) dL_acts_235 (by decide) rfl cw_RL_128 okX9_isAside rfl (Nat.le_of_ble_eq_true rfl) ⟨Nat.le_of_ble_eq_true rfl, Nat.le_of_ble_eq_true rfl, Nat.le_of_ble_eq_true rfl, Nat.le_of_ble_eq_true rfl⟩ ?_
                      refine zx_if_ne (tgt := 267) (by first | exact hz189 _ _ | assumption | exact zr_b _ | exact zcmp_r _ _ | exact hzD _ _ | exact zr3 (tS_b hW _) | exact zr3 (lsc_b hW _ _) | exact zr3 (sc_b hW _ _) | exact rkP_zr hW _ | exact scA_zr hW _ _ | exact zr3 (cW_b hW) | exact zr3 (wS_b hW) | exact zr3 (wS_b hWn) | (unfold zr at *; omega)) dL_acts_238 (by decide) (fun h238 => ?_) (fun h238 => ?_)
                      · exfalso; omega
                      · refine zx_aloadN dL_acts_241 rfl rfl ?_
                        refine zx_iload dL_acts_242 rfl ?_
                        refine zy_cv [zi (D 12 0)] (fX9_kindOf  hfl hz189 rfl hr189.2.2.2.2.2.1 (by first | exact hz189 _ _ | assumption | exact zr_b _ | exact zcmp_r _ _ | exact hzD _ _ | exact zr3 (tS_b hW _) | exact zr3 (lsc_b hW _ _) | exact zr3 (sc_b hW _ _) | exact rkP_zr hW _ | exact scA_zr hW _ _ | exact zr3 (cW_b hW) | exact zr3 (wS_b hW) | exact zr3 (wS_b hWn) | (unfold zr at *; omega)) (by first | assumption | omega)) dL_acts_244 (by decide) rfl cw_RL_109 okX9_kindOf rfl (Nat.le_of_ble_eq_true rfl) ⟨Nat.le_of_ble_eq_true rfl, Nat.le_of_ble_eq_true rfl, Nat.le_of_ble_eq_true rfl, Nat.le_of_ble_eq_true rfl⟩ ?_
                        refine zx_iload dL_acts_247 rfl ?_
                        refine zx_icmp_ne (tgt := 267) (by first | exact hz189 _ _ | assumption | exact zr_b _ | exact zcmp_r _ _ | exact hzD _ _ | exact zr3 (tS_b hW _) | exact zr3 (lsc_b hW _ _) | exact zr3 (sc_b hW _ _) | exact rkP_zr hW _ | exact scA_zr hW _ _ | exact zr3 (cW_b hW) | exact zr3 (wS_b hW) | exact zr3 (wS_b hWn) | (unfold zr at *; omega)) (by first | exact hz189 _ _ | assumption | exact zr_b _ | exact zcmp_r _ _ | exact hzD _ _ | exact zr3 (tS_b hW _) | exact zr3 (lsc_b hW _ _) | exact zr3 (sc_b hW _ _) | exact rkP_zr hW _ | exact scA_zr hW _ _ | exact zr3 (cW_b hW) | exact zr3 (wS_b hW) | exact zr3 (wS_b hWn) | (unfold zr at *; omega)) dL_acts_249 (by decide) (fun h249 => ?_) (fun h249 => ?_)
                        · exfalso; omega
                        · refine zx_aloadN dL_acts_252 rfl rfl ?_
                          refine zx_iload dL_acts_253 rfl ?_
                          refine zy_cv [zi (D 12 0)] (fX9_valueOf  hfl hz189 rfl hr189.2.2.2.2.2.1 (by first | exact hz189 _ _ | assumption | exact zr_b _ | exact zcmp_r _ _ | exact hzD _ _ | exact zr3 (tS_b hW _) | exact zr3 (lsc_b hW _ _) | exact zr3 (sc_b hW _ _) | exact rkP_zr hW _ | exact scA_zr hW _ _ | exact zr3 (cW_b hW) | exact zr3 (wS_b hW) | exact zr3 (wS_b hWn) | (unfold zr at *; omega)) (by first | assumption | omega)) dL_acts_255 (by decide) rfl cw_RL_114 okX9_valueOf rfl (Nat.le_of_ble_eq_true rfl) ⟨Nat.le_of_ble_eq_true rfl, Nat.le_of_ble_eq_true rfl, Nat.le_of_ble_eq_true rfl, Nat.le_of_ble_eq_true rfl⟩ ?_
                          refine zx_iload dL_acts_258 rfl ?_
                          refine zx_icmp_ne (tgt := 267) (by first | exact hz189 _ _ | assumption | exact zr_b _ | exact zcmp_r _ _ | exact hzD _ _ | exact zr3 (tS_b hW _) | exact zr3 (lsc_b hW _ _) | exact zr3 (sc_b hW _ _) | exact rkP_zr hW _ | exact scA_zr hW _ _ | exact zr3 (cW_b hW) | exact zr3 (wS_b hW) | exact zr3 (wS_b hWn) | (unfold zr at *; omega)) (by first | exact hz189 _ _ | assumption | exact zr_b _ | exact zcmp_r _ _ | exact hzD _ _ | exact zr3 (tS_b hW _) | exact zr3 (lsc_b hW _ _) | exact zr3 (sc_b hW _ _) | exact rkP_zr hW _ | exact scA_zr hW _ _ | exact zr3 (cW_b hW) | exact zr3 (wS_b hW) | exact zr3 (wS_b hWn) | (unfold zr at *; omega)) dL_acts_260 (by decide) (fun h260 => ?_) (fun h260 => ?_)
                          · exfalso; omega
                          · refine zx_iconst dL_acts_263 ?_
                            refine zx_goto (tgt := 268) dL_acts_264 (by decide) ?_
                            refine zx_iret rfl rfl dL_acts_268 ?_
                            rw [hQ]
                            refine ⟨congrArg (fun z : Int => (Sum.inl (some (zi z)) : Option zV ⊕ String)) ?_, ?_⟩
                            · first | rfl | assumption | omega
                            exact AP_e (aB_1 hu.2 (by omega)) (AP_d (zSame_rf _ _) hr189 (zSame_rf _ _) hz189)
                · refine zx_iload dL_acts_201 rfl ?_
                  refine zx_bipush dL_acts_203 rfl ?_
                  refine zx_icmp_ne (tgt := 212) (by first | exact hz189 _ _ | assumption | exact zr_b _ | exact zcmp_r _ _ | exact hzD _ _ | exact zr3 (tS_b hW _) | exact zr3 (lsc_b hW _ _) | exact zr3 (sc_b hW _ _) | exact rkP_zr hW _ | exact scA_zr hW _ _ | exact zr3 (cW_b hW) | exact zr3 (wS_b hW) | exact zr3 (wS_b hWn) | (unfold zr at *; omega)) (by first | exact hz189 _ _ | assumption | exact zr_b _ | exact zcmp_r _ _ | exact hzD _ _ | exact zr3 (tS_b hW _) | exact zr3 (lsc_b hW _ _) | exact zr3 (sc_b hW _ _) | exact rkP_zr hW _ | exact scA_zr hW _ _ | exact zr3 (cW_b hW) | exact zr3 (wS_b hW) | exact zr3 (wS_b hWn) | (unfold zr at *; omega)) dL_acts_205 (by decide) (fun h205 => ?_) (fun h205 => ?_)
                  · exfalso; omega
                  · refine zx_iconst dL_acts_208 ?_
                    refine zx_goto (tgt := 268) dL_acts_209 (by decide) ?_
                    refine zx_iret rfl rfl dL_acts_268 ?_
                    rw [hQ]
                    refine ⟨congrArg (fun z : Int => (Sum.inl (some (zi z)) : Option zV ⊕ String)) ?_, ?_⟩
                    · first | rfl | assumption | omega
                    exact AP_e (aB_1 hu.2 (by omega)) (AP_d (zSame_rf _ _) hr189 (zSame_rf _ _) hz189)
              · refine zy_csHR [zf 9 0, zi (y % 5), zi (1 + (x % 30)), zi (aV mk (y % 5) z), zi (1 + ((x + z) % 9))] (sL_does_addF  hfl hz hB hW (HN_j hN (zSame_rf _ _)) (HBA_j hA (zSame_rf _ _)) (by first | assumption | omega) (by first | assumption | omega) (by first | assumption | omega) (by first | assumption | omega)) dL_acts_189 cw_RL_231 okL_does rfl (Nat.le_of_ble_eq_true rfl) ⟨Nat.le_of_ble_eq_true rfl, Nat.le_of_ble_eq_true rfl, Nat.le_of_ble_eq_true rfl, Nat.le_of_ble_eq_true rfl⟩ (fun τ189 hr189 => ?_)
                have hz189 : zOK τ189 := hr189.1
                refine zy_istore [zf 9 0, zi mk, zi u, zi x, zi y, zi z, zi (D 12 0), zi (x % (D 12 0)), zi (y % 5), zi (aV mk (y % 5) z), zi (-103), zu, zu, zu] dL_acts_192 (Nat.le_of_ble_eq_true rfl) (Nat.le_of_ble_eq_true rfl) rfl rfl ?_
                refine zx_iload dL_acts_194 rfl ?_
                refine zx_bipush dL_acts_196 rfl ?_
                refine zx_icmp_ne (tgt := 216) (by first | exact hz189 _ _ | assumption | exact zr_b _ | exact zcmp_r _ _ | exact hzD _ _ | exact zr3 (tS_b hW _) | exact zr3 (lsc_b hW _ _) | exact zr3 (sc_b hW _ _) | exact rkP_zr hW _ | exact scA_zr hW _ _ | exact zr3 (cW_b hW) | exact zr3 (wS_b hW) | exact zr3 (wS_b hWn) | (unfold zr at *; omega)) (by first | exact hz189 _ _ | assumption | exact zr_b _ | exact zcmp_r _ _ | exact hzD _ _ | exact zr3 (tS_b hW _) | exact zr3 (lsc_b hW _ _) | exact zr3 (sc_b hW _ _) | exact rkP_zr hW _ | exact scA_zr hW _ _ | exact zr3 (cW_b hW) | exact zr3 (wS_b hW) | exact zr3 (wS_b hWn) | (unfold zr at *; omega)) dL_acts_198 (by decide) (fun h198 => ?_) (fun h198 => ?_)
                · exfalso; omega
                · refine zx_iload dL_acts_201 rfl ?_
                  refine zx_bipush dL_acts_203 rfl ?_
                  refine zx_icmp_ne (tgt := 212) (by first | exact hz189 _ _ | assumption | exact zr_b _ | exact zcmp_r _ _ | exact hzD _ _ | exact zr3 (tS_b hW _) | exact zr3 (lsc_b hW _ _) | exact zr3 (sc_b hW _ _) | exact rkP_zr hW _ | exact scA_zr hW _ _ | exact zr3 (cW_b hW) | exact zr3 (wS_b hW) | exact zr3 (wS_b hWn) | (unfold zr at *; omega)) (by first | exact hz189 _ _ | assumption | exact zr_b _ | exact zcmp_r _ _ | exact hzD _ _ | exact zr3 (tS_b hW _) | exact zr3 (lsc_b hW _ _) | exact zr3 (sc_b hW _ _) | exact rkP_zr hW _ | exact scA_zr hW _ _ | exact zr3 (cW_b hW) | exact zr3 (wS_b hW) | exact zr3 (wS_b hWn) | (unfold zr at *; omega)) dL_acts_205 (by decide) (fun h205 => ?_) (fun h205 => ?_)
                  · exact absurd h205 (by decide)
                  · refine zx_iconst dL_acts_208 ?_
                    refine zx_goto (tgt := 268) dL_acts_209 (by decide) ?_
                    refine zx_iret rfl rfl dL_acts_268 ?_
                    rw [hQ]
                    refine ⟨congrArg (fun z : Int => (Sum.inl (some (zi z)) : Option zV ⊕ String)) ?_, ?_⟩
                    · first | rfl | assumption | omega
                    exact AP_e (aB_0 hu.2 (by omega)) (AP_f hW (zSame_rf _ _) hr189 (zSame_rf _ _) hz189 rfl)
          · refine zx_iload dL_acts_112 rfl ?_
            refine zx_iconst dL_acts_114 ?_
            refine zx_irem (by omega) (by omega) (by omega) (by omega) dL_acts_115 ?_
            refine zy_top (b := aV mk (y % 5) z) ((by unfold aV; rw [if_pos h109])) ?_
            refine zx_goto (tgt := 167) dL_acts_116 (by decide) ?_
            refine zy_istore [zf 9 0, zi mk, zi u, zi x, zi y, zi z, zi (D 12 0), zi (x % (D 12 0)), zi (y % 5), zi (aV mk (y % 5) z), zu, zu, zu, zu] dL_acts_167 (Nat.le_of_ble_eq_true rfl) (Nat.le_of_ble_eq_true rfl) rfl rfl ?_
            refine zx_aloadN dL_acts_169 rfl rfl ?_
            refine zx_iload dL_acts_170 rfl ?_
            refine zx_iconst dL_acts_172 ?_
            refine zx_iloadN dL_acts_173 rfl rfl ?_
            refine zx_bipush dL_acts_174 rfl ?_
            refine zx_irem (by omega) (by omega) (by omega) (by omega) dL_acts_176 ?_
            refine zx_iadd dL_acts_177 ?_
            refine zx_iload dL_acts_178 rfl ?_
            refine zx_iconst dL_acts_180 ?_
            refine zx_iloadN dL_acts_181 rfl rfl ?_
            refine zx_iload dL_acts_182 rfl ?_
            refine zx_iadd dL_acts_184 ?_
            refine zx_bipush dL_acts_185 rfl ?_
            refine zx_irem (by omega) (by omega) (by omega) (by omega) dL_acts_187 ?_
            refine zx_iadd dL_acts_188 ?_
            by_cases hb189 : D 12 0 < 40
            · refine zy_csHR [zf 9 0, zi (y % 5), zi (1 + (x % 30)), zi (aV mk (y % 5) z), zi (1 + ((x + z) % 9))] (sL_does_add  hfl hz hB hW (HN_j hN (zSame_rf _ _)) (HBA_j hA (zSame_rf _ _)) (by first | assumption | omega) (by first | assumption | omega) (by first | assumption | omega) (by first | assumption | omega)) dL_acts_189 cw_RL_231 okL_does rfl (Nat.le_of_ble_eq_true rfl) ⟨Nat.le_of_ble_eq_true rfl, Nat.le_of_ble_eq_true rfl, Nat.le_of_ble_eq_true rfl, Nat.le_of_ble_eq_true rfl⟩ (fun τ189 hr189 => ?_)
              have hz189 : zOK τ189 := hr189.1
              have hl := hr189.2.2.2.2.2.2
              have hWn := hr189.2.2.2.2.2.1
              have hzDn := hzDof (rfl : bK τ189 = bK τ189) hz189
              obtain ⟨e12, e14, e15, e17, e18⟩ := ad_post hl (by omega)
              refine zy_istore [zf 9 0, zi mk, zi u, zi x, zi y, zi z, zi (D 12 0), zi (x % (D 12 0)), zi (y % 5), zi (aV mk (y % 5) z), zi (D 12 0), zu, zu, zu] dL_acts_192 (Nat.le_of_ble_eq_true rfl) (Nat.le_of_ble_eq_true rfl) rfl rfl ?_
              refine zx_iload dL_acts_194 rfl ?_
              refine zx_bipush dL_acts_196 rfl ?_
              refine zx_icmp_ne (tgt := 216) (by first | exact hz189 _ _ | assumption | exact zr_b _ | exact zcmp_r _ _ | exact hzD _ _ | exact zr3 (tS_b hW _) | exact zr3 (lsc_b hW _ _) | exact zr3 (sc_b hW _ _) | exact rkP_zr hW _ | exact scA_zr hW _ _ | exact zr3 (cW_b hW) | exact zr3 (wS_b hW) | exact zr3 (wS_b hWn) | (unfold zr at *; omega)) (by first | exact hz189 _ _ | assumption | exact zr_b _ | exact zcmp_r _ _ | exact hzD _ _ | exact zr3 (tS_b hW _) | exact zr3 (lsc_b hW _ _) | exact zr3 (sc_b hW _ _) | exact rkP_zr hW _ | exact scA_zr hW _ _ | exact zr3 (cW_b hW) | exact zr3 (wS_b hW) | exact zr3 (wS_b hWn) | (unfold zr at *; omega)) dL_acts_198 (by decide) (fun h198 => ?_) (fun h198 => ?_)
              · refine zx_iload dL_acts_216 rfl ?_
                refine zx_iload dL_acts_218 rfl ?_
                refine zx_icmp_ne (tgt := 267) (by first | exact hz189 _ _ | assumption | exact zr_b _ | exact zcmp_r _ _ | exact hzD _ _ | exact zr3 (tS_b hW _) | exact zr3 (lsc_b hW _ _) | exact zr3 (sc_b hW _ _) | exact rkP_zr hW _ | exact scA_zr hW _ _ | exact zr3 (cW_b hW) | exact zr3 (wS_b hW) | exact zr3 (wS_b hWn) | (unfold zr at *; omega)) (by first | exact hz189 _ _ | assumption | exact zr_b _ | exact zcmp_r _ _ | exact hzD _ _ | exact zr3 (tS_b hW _) | exact zr3 (lsc_b hW _ _) | exact zr3 (sc_b hW _ _) | exact rkP_zr hW _ | exact scA_zr hW _ _ | exact zr3 (cW_b hW) | exact zr3 (wS_b hW) | exact zr3 (wS_b hWn) | (unfold zr at *; omega)) dL_acts_220 (by decide) (fun h220 => ?_) (fun h220 => ?_)
                · exfalso; omega
                · refine zx_aloadN dL_acts_223 rfl rfl ?_
                  refine zx_iload dL_acts_224 rfl ?_
                  refine zy_cv [zi (D 12 0)] (fX9_isRead  hfl hz189 rfl hr189.2.2.2.2.2.1 (by first | exact hz189 _ _ | assumption | exact zr_b _ | exact zcmp_r _ _ | exact hzD _ _ | exact zr3 (tS_b hW _) | exact zr3 (lsc_b hW _ _) | exact zr3 (sc_b hW _ _) | exact rkP_zr hW _ | exact scA_zr hW _ _ | exact zr3 (cW_b hW) | exact zr3 (wS_b hW) | exact zr3 (wS_b hWn) | (unfold zr at *; omega)) (by first | assumption | omega)) dL_acts_226 (by decide) rfl cw_RL_122 okX9_isRead rfl (Nat.le_of_ble_eq_true rfl) ⟨Nat.le_of_ble_eq_true rfl, Nat.le_of_ble_eq_true rfl, Nat.le_of_ble_eq_true rfl, Nat.le_of_ble_eq_true rfl⟩ ?_
                  refine zx_if_ne (tgt := 267) (by first | exact hz189 _ _ | assumption | exact zr_b _ | exact zcmp_r _ _ | exact hzD _ _ | exact zr3 (tS_b hW _) | exact zr3 (lsc_b hW _ _) | exact zr3 (sc_b hW _ _) | exact rkP_zr hW _ | exact scA_zr hW _ _ | exact zr3 (cW_b hW) | exact zr3 (wS_b hW) | exact zr3 (wS_b hWn) | (unfold zr at *; omega)) dL_acts_229 (by decide) (fun h229 => ?_) (fun h229 => ?_)
                  · exfalso; omega
                  · refine zx_aloadN dL_acts_232 rfl rfl ?_
                    refine zx_iload dL_acts_233 rfl ?_
                    refine zy_cv [zi (D 12 0)] (fX9_isAside  hfl hz189 rfl hr189.2.2.2.2.2.1 (by first | exact hz189 _ _ | assumption | exact zr_b _ | exact zcmp_r _ _ | exact hzD _ _ | exact zr3 (tS_b hW _) | exact zr3 (lsc_b hW _ _) | exact zr3 (sc_b hW _ _) | exact rkP_zr hW _ | exact scA_zr hW _ _ | exact zr3 (cW_b hW) | exact zr3 (wS_b hW) | exact zr3 (wS_b hWn) | (unfold zr at *; omega)) (by first | assumption | omega)) dL_acts_235 (by decide) rfl cw_RL_128 okX9_isAside rfl (Nat.le_of_ble_eq_true rfl) ⟨Nat.le_of_ble_eq_true rfl, Nat.le_of_ble_eq_true rfl, Nat.le_of_ble_eq_true rfl, Nat.le_of_ble_eq_true rfl⟩ ?_
                    refine zx_if_ne (tgt := 267) (by first | exact hz189 _ _ | assumption | exact zr_b _ | exact zcmp_r _ _ | exact hzD _ _ | exact zr3 (tS_b hW _) | exact zr3 (lsc_b hW _ _) | exact zr3 (sc_b hW _ _) | exact rkP_zr hW _ | exact scA_zr hW _ _ | exact zr3 (cW_b hW) | exact zr3 (wS_b hW) | exact zr3 (wS_b hWn) | (unfold zr at *; omega)) dL_acts_238 (by decide) (fun h238 => ?_) (fun h238 => ?_)
                    · exfalso; omega
                    · refine zx_aloadN dL_acts_241 rfl rfl ?_
                      refine zx_iload dL_acts_242 rfl ?_
                      refine zy_cv [zi (D 12 0)] (fX9_kindOf  hfl hz189 rfl hr189.2.2.2.2.2.1 (by first | exact hz189 _ _ | assumption | exact zr_b _ | exact zcmp_r _ _ | exact hzD _ _ | exact zr3 (tS_b hW _) | exact zr3 (lsc_b hW _ _) | exact zr3 (sc_b hW _ _) | exact rkP_zr hW _ | exact scA_zr hW _ _ | exact zr3 (cW_b hW) | exact zr3 (wS_b hW) | exact zr3 (wS_b hWn) | (unfold zr at *; omega)) (by first | assumption | omega)) dL_acts_244 (by decide) rfl cw_RL_109 okX9_kindOf rfl (Nat.le_of_ble_eq_true rfl) ⟨Nat.le_of_ble_eq_true rfl, Nat.le_of_ble_eq_true rfl, Nat.le_of_ble_eq_true rfl, Nat.le_of_ble_eq_true rfl⟩ ?_
                      refine zx_iload dL_acts_247 rfl ?_
                      refine zx_icmp_ne (tgt := 267) (by first | exact hz189 _ _ | assumption | exact zr_b _ | exact zcmp_r _ _ | exact hzD _ _ | exact zr3 (tS_b hW _) | exact zr3 (lsc_b hW _ _) | exact zr3 (sc_b hW _ _) | exact rkP_zr hW _ | exact scA_zr hW _ _ | exact zr3 (cW_b hW) | exact zr3 (wS_b hW) | exact zr3 (wS_b hWn) | (unfold zr at *; omega)) (by first | exact hz189 _ _ | assumption | exact zr_b _ | exact zcmp_r _ _ | exact hzD _ _ | exact zr3 (tS_b hW _) | exact zr3 (lsc_b hW _ _) | exact zr3 (sc_b hW _ _) | exact rkP_zr hW _ | exact scA_zr hW _ _ | exact zr3 (cW_b hW) | exact zr3 (wS_b hW) | exact zr3 (wS_b hWn) | (unfold zr at *; omega)) dL_acts_249 (by decide) (fun h249 => ?_) (fun h249 => ?_)
                      · exfalso; omega
                      · refine zx_aloadN dL_acts_252 rfl rfl ?_
                        refine zx_iload dL_acts_253 rfl ?_
                        refine zy_cv [zi (D 12 0)] (fX9_valueOf  hfl hz189 rfl hr189.2.2.2.2.2.1 (by first | exact hz189 _ _ | assumption | exact zr_b _ | exact zcmp_r _ _ | exact hzD _ _ | exact zr3 (tS_b hW _) | exact zr3 (lsc_b hW _ _) | exact zr3 (sc_b hW _ _) | exact rkP_zr hW _ | exact scA_zr hW _ _ | exact zr3 (cW_b hW) | exact zr3 (wS_b hW) | exact zr3 (wS_b hWn) | (unfold zr at *; omega)) (by first | assumption | omega)) dL_acts_255 (by decide) rfl cw_RL_114 okX9_valueOf rfl (Nat.le_of_ble_eq_true rfl) ⟨Nat.le_of_ble_eq_true rfl, Nat.le_of_ble_eq_true rfl, Nat.le_of_ble_eq_true rfl, Nat.le_of_ble_eq_true rfl⟩ ?_
                        refine zx_iload dL_acts_258 rfl ?_
                        refine zx_icmp_ne (tgt := 267) (by first | exact hz189 _ _ | assumption | exact zr_b _ | exact zcmp_r _ _ | exact hzD _ _ | exact zr3 (tS_b hW _) | exact zr3 (lsc_b hW _ _) | exact zr3 (sc_b hW _ _) | exact rkP_zr hW _ | exact scA_zr hW _ _ | exact zr3 (cW_b hW) | exact zr3 (wS_b hW) | exact zr3 (wS_b hWn) | (unfold zr at *; omega)) (by first | exact hz189 _ _ | assumption | exact zr_b _ | exact zcmp_r _ _ | exact hzD _ _ | exact zr3 (tS_b hW _) | exact zr3 (lsc_b hW _ _) | exact zr3 (sc_b hW _ _) | exact rkP_zr hW _ | exact scA_zr hW _ _ | exact zr3 (cW_b hW) | exact zr3 (wS_b hW) | exact zr3 (wS_b hWn) | (unfold zr at *; omega)) dL_acts_260 (by decide) (fun h260 => ?_) (fun h260 => ?_)
                        · exfalso; omega
                        · refine zx_iconst dL_acts_263 ?_
                          refine zx_goto (tgt := 268) dL_acts_264 (by decide) ?_
                          refine zx_iret rfl rfl dL_acts_268 ?_
                          rw [hQ]
                          refine ⟨congrArg (fun z : Int => (Sum.inl (some (zi z)) : Option zV ⊕ String)) ?_, ?_⟩
                          · first | rfl | assumption | omega
                          exact AP_e (aB_1 hu.2 (by omega)) (AP_d (zSame_rf _ _) hr189 (zSame_rf _ _) hz189)
              · refine zx_iload dL_acts_201 rfl ?_
                refine zx_bipush dL_acts_203 rfl ?_
                refine zx_icmp_ne (tgt := 212) (by first | exact hz189 _ _ | assumption | exact zr_b _ | exact zcmp_r _ _ | exact hzD _ _ | exact zr3 (tS_b hW _) | exact zr3 (lsc_b hW _ _) | exact zr3 (sc_b hW _ _) | exact rkP_zr hW _ | exact scA_zr hW _ _ | exact zr3 (cW_b hW) | exact zr3 (wS_b hW) | exact zr3 (wS_b hWn) | (unfold zr at *; omega)) (by first | exact hz189 _ _ | assumption | exact zr_b _ | exact zcmp_r _ _ | exact hzD _ _ | exact zr3 (tS_b hW _) | exact zr3 (lsc_b hW _ _) | exact zr3 (sc_b hW _ _) | exact rkP_zr hW _ | exact scA_zr hW _ _ | exact zr3 (cW_b hW) | exact zr3 (wS_b hW) | exact zr3 (wS_b hWn) | (unfold zr at *; omega)) dL_acts_205 (by decide) (fun h205 => ?_) (fun h205 => ?_)
                · exfalso; omega
                · refine zx_iconst dL_acts_208 ?_
                  refine zx_goto (tgt := 268) dL_acts_209 (by decide) ?_
                  refine zx_iret rfl rfl dL_acts_268 ?_
                  rw [hQ]
                  refine ⟨congrArg (fun z : Int => (Sum.inl (some (zi z)) : Option zV ⊕ String)) ?_, ?_⟩
                  · first | rfl | assumption | omega
                  exact AP_e (aB_1 hu.2 (by omega)) (AP_d (zSame_rf _ _) hr189 (zSame_rf _ _) hz189)
            · refine zy_csHR [zf 9 0, zi (y % 5), zi (1 + (x % 30)), zi (aV mk (y % 5) z), zi (1 + ((x + z) % 9))] (sL_does_addF  hfl hz hB hW (HN_j hN (zSame_rf _ _)) (HBA_j hA (zSame_rf _ _)) (by first | assumption | omega) (by first | assumption | omega) (by first | assumption | omega) (by first | assumption | omega)) dL_acts_189 cw_RL_231 okL_does rfl (Nat.le_of_ble_eq_true rfl) ⟨Nat.le_of_ble_eq_true rfl, Nat.le_of_ble_eq_true rfl, Nat.le_of_ble_eq_true rfl, Nat.le_of_ble_eq_true rfl⟩ (fun τ189 hr189 => ?_)
              have hz189 : zOK τ189 := hr189.1
              refine zy_istore [zf 9 0, zi mk, zi u, zi x, zi y, zi z, zi (D 12 0), zi (x % (D 12 0)), zi (y % 5), zi (aV mk (y % 5) z), zi (-103), zu, zu, zu] dL_acts_192 (Nat.le_of_ble_eq_true rfl) (Nat.le_of_ble_eq_true rfl) rfl rfl ?_
              refine zx_iload dL_acts_194 rfl ?_
              refine zx_bipush dL_acts_196 rfl ?_
              refine zx_icmp_ne (tgt := 216) (by first | exact hz189 _ _ | assumption | exact zr_b _ | exact zcmp_r _ _ | exact hzD _ _ | exact zr3 (tS_b hW _) | exact zr3 (lsc_b hW _ _) | exact zr3 (sc_b hW _ _) | exact rkP_zr hW _ | exact scA_zr hW _ _ | exact zr3 (cW_b hW) | exact zr3 (wS_b hW) | exact zr3 (wS_b hWn) | (unfold zr at *; omega)) (by first | exact hz189 _ _ | assumption | exact zr_b _ | exact zcmp_r _ _ | exact hzD _ _ | exact zr3 (tS_b hW _) | exact zr3 (lsc_b hW _ _) | exact zr3 (sc_b hW _ _) | exact rkP_zr hW _ | exact scA_zr hW _ _ | exact zr3 (cW_b hW) | exact zr3 (wS_b hW) | exact zr3 (wS_b hWn) | (unfold zr at *; omega)) dL_acts_198 (by decide) (fun h198 => ?_) (fun h198 => ?_)
              · exfalso; omega
              · refine zx_iload dL_acts_201 rfl ?_
                refine zx_bipush dL_acts_203 rfl ?_
                refine zx_icmp_ne (tgt := 212) (by first | exact hz189 _ _ | assumption | exact zr_b _ | exact zcmp_r _ _ | exact hzD _ _ | exact zr3 (tS_b hW _) | exact zr3 (lsc_b hW _ _) | exact zr3 (sc_b hW _ _) | exact rkP_zr hW _ | exact scA_zr hW _ _ | exact zr3 (cW_b hW) | exact zr3 (wS_b hW) | exact zr3 (wS_b hWn) | (unfold zr at *; omega)) (by first | exact hz189 _ _ | assumption | exact zr_b _ | exact zcmp_r _ _ | exact hzD _ _ | exact zr3 (tS_b hW _) | exact zr3 (lsc_b hW _ _) | exact zr3 (sc_b hW _ _) | exact rkP_zr hW _ | exact scA_zr hW _ _ | exact zr3 (cW_b hW) | exact zr3 (wS_b hW) | exact zr3 (wS_b hWn) | (unfold zr at *; omega)) dL_acts_205 (by decide) (fun h205 => ?_) (fun h205 => ?_)
                · exact absurd h205 (by decide)
                · refine zx_iconst dL_acts_208 ?_
                  refine zx_goto (tgt := 268) dL_acts_209 (by decide) ?_
                  refine zx_iret rfl rfl dL_acts_268 ?_
                  rw [hQ]
                  refine ⟨congrArg (fun z : Int => (Sum.inl (some (zi z)) : Option zV ⊕ String)) ?_, ?_⟩
                  · first | rfl | assumption | omega
                  exact AP_e (aB_0 hu.2 (by omega)) (AP_f hW (zSame_rf _ _) hr189 (zSame_rf _ _) hz189 rfl)
        · refine zx_aloadN dL_acts_88 rfl rfl ?_
          refine zx_iconst dL_acts_89 ?_
          refine zx_iconst dL_acts_90 ?_
          refine zx_iconst dL_acts_91 ?_
          refine zx_iconst dL_acts_92 ?_
          refine zy_csHR [zf 9 0, zi 2, zi 5, zi 0, zi 1] (sL_does_addM  hfl hz hB hW (HN_j hN (zSame_rf _ _)) (HBA_j hA (zSame_rf _ _)) (by first | assumption | omega)) dL_acts_93 cw_RL_231 okL_does rfl (Nat.le_of_ble_eq_true rfl) ⟨Nat.le_of_ble_eq_true rfl, Nat.le_of_ble_eq_true rfl, Nat.le_of_ble_eq_true rfl, Nat.le_of_ble_eq_true rfl⟩ (fun τ93 hr93 => ?_)
          have hz93 : zOK τ93 := hr93.1
          refine zx_bipush dL_acts_96 rfl ?_
          refine zx_icmp_ne (tgt := 105) (by first | exact hz93 _ _ | assumption | exact zr_b _ | exact zcmp_r _ _ | exact hzD _ _ | exact zr3 (tS_b hW _) | exact zr3 (lsc_b hW _ _) | exact zr3 (sc_b hW _ _) | exact rkP_zr hW _ | exact scA_zr hW _ _ | exact zr3 (cW_b hW) | exact zr3 (wS_b hW) | exact zr3 (wS_b hWn) | (unfold zr at *; omega)) (by first | exact hz93 _ _ | assumption | exact zr_b _ | exact zcmp_r _ _ | exact hzD _ _ | exact zr3 (tS_b hW _) | exact zr3 (lsc_b hW _ _) | exact zr3 (sc_b hW _ _) | exact rkP_zr hW _ | exact scA_zr hW _ _ | exact zr3 (cW_b hW) | exact zr3 (wS_b hW) | exact zr3 (wS_b hWn) | (unfold zr at *; omega)) dL_acts_98 (by decide) (fun h98 => ?_) (fun h98 => ?_)
          · exact absurd h98 (by decide)
          · refine zx_iconst dL_acts_101 ?_
            refine zx_goto (tgt := 106) dL_acts_102 (by decide) ?_
            refine zx_iret rfl rfl dL_acts_106 ?_
            rw [hQ]
            refine ⟨congrArg (fun z : Int => (Sum.inl (some (zi z)) : Option zV ⊕ String)) ?_, ?_⟩
            · first | rfl | assumption | omega
            exact AP_e (aB_0 hu.2 (by omega)) (AP_f hW (zSame_rf _ _) hr93 (zSame_rf _ _) hz93 rfl)
    rcases (by omega : u = 0 ∨ u = 1 ∨ u = 2 ∨ u = 3 ∨ u = 4 ∨ u = 5 ∨ u = 6 ∨ u = 7 ∨ u = 8 ∨ (u < 0 ∨ 8 < u)) with h22 | h22 | h22 | h22 | h22 | h22 | h22 | h22 | h22 | h22
    · refine zx_tableIn (off := 50) (tgt := 72) (by first | exact hz _ _ | assumption | exact zr_b _ | exact zcmp_r _ _ | exact hzD _ _ | exact zr3 (tS_b hW _) | exact zr3 (lsc_b hW _ _) | exact zr3 (sc_b hW _ _) | exact rkP_zr hW _ | exact scA_zr hW _ _ | exact zr3 (cW_b hW) | exact zr3 (wS_b hW) | exact zr3 (wS_b hWn) | (unfold zr at *; omega)) dL_acts_22 (by omega) (by omega) (by rw [h22]; rfl) (by decide) ?_
      exact J72
    · refine zx_tableIn (off := 50) (tgt := 72) (by first | exact hz _ _ | assumption | exact zr_b _ | exact zcmp_r _ _ | exact hzD _ _ | exact zr3 (tS_b hW _) | exact zr3 (lsc_b hW _ _) | exact zr3 (sc_b hW _ _) | exact rkP_zr hW _ | exact scA_zr hW _ _ | exact zr3 (cW_b hW) | exact zr3 (wS_b hW) | exact zr3 (wS_b hWn) | (unfold zr at *; omega)) dL_acts_22 (by omega) (by omega) (by rw [h22]; rfl) (by decide) ?_
      exact J72
    · refine zx_tableIn (off := 50) (tgt := 72) (by first | exact hz _ _ | assumption | exact zr_b _ | exact zcmp_r _ _ | exact hzD _ _ | exact zr3 (tS_b hW _) | exact zr3 (lsc_b hW _ _) | exact zr3 (sc_b hW _ _) | exact rkP_zr hW _ | exact scA_zr hW _ _ | exact zr3 (cW_b hW) | exact zr3 (wS_b hW) | exact zr3 (wS_b hWn) | (unfold zr at *; omega)) dL_acts_22 (by omega) (by omega) (by rw [h22]; rfl) (by decide) ?_
      exact J72
    · refine zx_tableIn (off := 247) (tgt := 269) (by first | exact hz _ _ | assumption | exact zr_b _ | exact zcmp_r _ _ | exact hzD _ _ | exact zr3 (tS_b hW _) | exact zr3 (lsc_b hW _ _) | exact zr3 (sc_b hW _ _) | exact rkP_zr hW _ | exact scA_zr hW _ _ | exact zr3 (cW_b hW) | exact zr3 (wS_b hW) | exact zr3 (wS_b hWn) | (unfold zr at *; omega)) dL_acts_22 (by omega) (by omega) (by rw [h22]; rfl) (by decide) ?_
      exfalso; omega
    · refine zx_tableIn (off := 247) (tgt := 269) (by first | exact hz _ _ | assumption | exact zr_b _ | exact zcmp_r _ _ | exact hzD _ _ | exact zr3 (tS_b hW _) | exact zr3 (lsc_b hW _ _) | exact zr3 (sc_b hW _ _) | exact rkP_zr hW _ | exact scA_zr hW _ _ | exact zr3 (cW_b hW) | exact zr3 (wS_b hW) | exact zr3 (wS_b hWn) | (unfold zr at *; omega)) dL_acts_22 (by omega) (by omega) (by rw [h22]; rfl) (by decide) ?_
      exfalso; omega
    · refine zx_tableIn (off := 258) (tgt := 280) (by first | exact hz _ _ | assumption | exact zr_b _ | exact zcmp_r _ _ | exact hzD _ _ | exact zr3 (tS_b hW _) | exact zr3 (lsc_b hW _ _) | exact zr3 (sc_b hW _ _) | exact rkP_zr hW _ | exact scA_zr hW _ _ | exact zr3 (cW_b hW) | exact zr3 (wS_b hW) | exact zr3 (wS_b hWn) | (unfold zr at *; omega)) dL_acts_22 (by omega) (by omega) (by rw [h22]; rfl) (by decide) ?_
      exfalso; omega
    · refine zx_tableIn (off := 258) (tgt := 280) (by first | exact hz _ _ | assumption | exact zr_b _ | exact zcmp_r _ _ | exact hzD _ _ | exact zr3 (tS_b hW _) | exact zr3 (lsc_b hW _ _) | exact zr3 (sc_b hW _ _) | exact rkP_zr hW _ | exact scA_zr hW _ _ | exact zr3 (cW_b hW) | exact zr3 (wS_b hW) | exact zr3 (wS_b hWn) | (unfold zr at *; omega)) dL_acts_22 (by omega) (by omega) (by rw [h22]; rfl) (by decide) ?_
      exfalso; omega
    · refine zx_tableIn (off := 414) (tgt := 436) (by first | exact hz _ _ | assumption | exact zr_b _ | exact zcmp_r _ _ | exact hzD _ _ | exact zr3 (tS_b hW _) | exact zr3 (lsc_b hW _ _) | exact zr3 (sc_b hW _ _) | exact rkP_zr hW _ | exact scA_zr hW _ _ | exact zr3 (cW_b hW) | exact zr3 (wS_b hW) | exact zr3 (wS_b hWn) | (unfold zr at *; omega)) dL_acts_22 (by omega) (by omega) (by rw [h22]; rfl) (by decide) ?_
      exfalso; omega
    · refine zx_tableIn (off := 490) (tgt := 512) (by first | exact hz _ _ | assumption | exact zr_b _ | exact zcmp_r _ _ | exact hzD _ _ | exact zr3 (tS_b hW _) | exact zr3 (lsc_b hW _ _) | exact zr3 (sc_b hW _ _) | exact rkP_zr hW _ | exact scA_zr hW _ _ | exact zr3 (cW_b hW) | exact zr3 (wS_b hW) | exact zr3 (wS_b hWn) | (unfold zr at *; omega)) dL_acts_22 (by omega) (by omega) (by rw [h22]; rfl) (by decide) ?_
      exfalso; omega
    · refine zx_tableOut (tgt := 682) (by first | exact hz _ _ | assumption | exact zr_b _ | exact zcmp_r _ _ | exact hzD _ _ | exact zr3 (tS_b hW _) | exact zr3 (lsc_b hW _ _) | exact zr3 (sc_b hW _ _) | exact rkP_zr hW _ | exact scA_zr hW _ _ | exact zr3 (cW_b hW) | exact zr3 (wS_b hW) | exact zr3 (wS_b hWn) | (unfold zr at *; omega)) dL_acts_22 (by omega) (by decide) ?_
      exfalso; omega
  · refine zx_iconst dL_acts_11 ?_
    refine zx_goto (tgt := 19) dL_acts_12 (by decide) ?_
    refine zy_istore [zf 9 0, zi mk, zi u, zi x, zi y, zi z, zi (D 12 0), zi 0, zu, zu, zu, zu, zu, zu] dL_acts_19 (Nat.le_of_ble_eq_true rfl) (Nat.le_of_ble_eq_true rfl) rfl rfl ?_
    refine zx_iloadN dL_acts_21 rfl rfl ?_
    have J72 : zX l w mL_acts (zMQ w 12 1 Q) 72 [zf 9 0, zi mk, zi u, zi x, zi y, zi z, zi (D 12 0), zi 0, zu, zu, zu, zu, zu, zu] [] 0 σ := by
      refine zx_iload dL_acts_72 rfl ?_
      refine zx_iconst dL_acts_74 ?_
      refine zx_irem (by omega) (by omega) (by omega) (by omega) dL_acts_75 ?_
      refine zy_istore [zf 9 0, zi mk, zi u, zi x, zi y, zi z, zi (D 12 0), zi 0, zi (y % 5), zu, zu, zu, zu, zu] dL_acts_76 (Nat.le_of_ble_eq_true rfl) (Nat.le_of_ble_eq_true rfl) rfl rfl ?_
      refine zx_iload dL_acts_78 rfl ?_
      refine zx_iconst dL_acts_80 ?_
      refine zx_icmp_ne (tgt := 107) (by first | exact hz _ _ | assumption | exact zr_b _ | exact zcmp_r _ _ | exact hzD _ _ | exact zr3 (tS_b hW _) | exact zr3 (lsc_b hW _ _) | exact zr3 (sc_b hW _ _) | exact rkP_zr hW _ | exact scA_zr hW _ _ | exact zr3 (cW_b hW) | exact zr3 (wS_b hW) | exact zr3 (wS_b hWn) | (unfold zr at *; omega)) (by first | exact hz _ _ | assumption | exact zr_b _ | exact zcmp_r _ _ | exact hzD _ _ | exact zr3 (tS_b hW _) | exact zr3 (lsc_b hW _ _) | exact zr3 (sc_b hW _ _) | exact rkP_zr hW _ | exact scA_zr hW _ _ | exact zr3 (cW_b hW) | exact zr3 (wS_b hW) | exact zr3 (wS_b hWn) | (unfold zr at *; omega)) dL_acts_81 (by decide) (fun h81 => ?_) (fun h81 => ?_)
      · have hvk : WFk D (y % 5) (aV mk (y % 5) z) := aV_k hm hmb (by omega) hzz.1 (by omega)
        have hvz : zr (aV mk (y % 5) z) := by obtain ⟨-, -, v0, v1, -⟩ := hvk; unfold zr; omega
        refine zx_iload dL_acts_107 rfl ?_
        refine zx_if_ne (tgt := 119) (by first | exact hz _ _ | assumption | exact zr_b _ | exact zcmp_r _ _ | exact hzD _ _ | exact zr3 (tS_b hW _) | exact zr3 (lsc_b hW _ _) | exact zr3 (sc_b hW _ _) | exact rkP_zr hW _ | exact scA_zr hW _ _ | exact zr3 (cW_b hW) | exact zr3 (wS_b hW) | exact zr3 (wS_b hWn) | (unfold zr at *; omega)) dL_acts_109 (by decide) (fun h109 => ?_) (fun h109 => ?_)
        · refine zx_iload dL_acts_119 rfl ?_
          refine zx_iconst dL_acts_121 ?_
          refine zx_icmp_ne (tgt := 132) (by first | exact hz _ _ | assumption | exact zr_b _ | exact zcmp_r _ _ | exact hzD _ _ | exact zr3 (tS_b hW _) | exact zr3 (lsc_b hW _ _) | exact zr3 (sc_b hW _ _) | exact rkP_zr hW _ | exact scA_zr hW _ _ | exact zr3 (cW_b hW) | exact zr3 (wS_b hW) | exact zr3 (wS_b hWn) | (unfold zr at *; omega)) (by first | exact hz _ _ | assumption | exact zr_b _ | exact zcmp_r _ _ | exact hzD _ _ | exact zr3 (tS_b hW _) | exact zr3 (lsc_b hW _ _) | exact zr3 (sc_b hW _ _) | exact rkP_zr hW _ | exact scA_zr hW _ _ | exact zr3 (cW_b hW) | exact zr3 (wS_b hW) | exact zr3 (wS_b hWn) | (unfold zr at *; omega)) dL_acts_122 (by decide) (fun h122 => ?_) (fun h122 => ?_)
          · refine zx_iload dL_acts_132 rfl ?_
            refine zx_iconst dL_acts_134 ?_
            refine zx_icmp_ne (tgt := 145) (by first | exact hz _ _ | assumption | exact zr_b _ | exact zcmp_r _ _ | exact hzD _ _ | exact zr3 (tS_b hW _) | exact zr3 (lsc_b hW _ _) | exact zr3 (sc_b hW _ _) | exact rkP_zr hW _ | exact scA_zr hW _ _ | exact zr3 (cW_b hW) | exact zr3 (wS_b hW) | exact zr3 (wS_b hWn) | (unfold zr at *; omega)) (by first | exact hz _ _ | assumption | exact zr_b _ | exact zcmp_r _ _ | exact hzD _ _ | exact zr3 (tS_b hW _) | exact zr3 (lsc_b hW _ _) | exact zr3 (sc_b hW _ _) | exact rkP_zr hW _ | exact scA_zr hW _ _ | exact zr3 (cW_b hW) | exact zr3 (wS_b hW) | exact zr3 (wS_b hWn) | (unfold zr at *; omega)) dL_acts_135 (by decide) (fun h135 => ?_) (fun h135 => ?_)
            · refine zx_iload dL_acts_145 rfl ?_
              refine zx_iconst dL_acts_147 ?_
              refine zx_icmp_ne (tgt := 158) (by first | exact hz _ _ | assumption | exact zr_b _ | exact zcmp_r _ _ | exact hzD _ _ | exact zr3 (tS_b hW _) | exact zr3 (lsc_b hW _ _) | exact zr3 (sc_b hW _ _) | exact rkP_zr hW _ | exact scA_zr hW _ _ | exact zr3 (cW_b hW) | exact zr3 (wS_b hW) | exact zr3 (wS_b hWn) | (unfold zr at *; omega)) (by first | exact hz _ _ | assumption | exact zr_b _ | exact zcmp_r _ _ | exact hzD _ _ | exact zr3 (tS_b hW _) | exact zr3 (lsc_b hW _ _) | exact zr3 (sc_b hW _ _) | exact rkP_zr hW _ | exact scA_zr hW _ _ | exact zr3 (cW_b hW) | exact zr3 (wS_b hW) | exact zr3 (wS_b hWn) | (unfold zr at *; omega)) dL_acts_148 (by decide) (fun h148 => ?_) (fun h148 => ?_)
              · refine zx_sipush dL_acts_158 rfl ?_
                refine zx_iload dL_acts_161 rfl ?_
                refine zx_bipush dL_acts_163 rfl ?_
                refine zx_irem (by omega) (by omega) (by omega) (by omega) dL_acts_165 ?_
                refine zx_iadd dL_acts_166 ?_
                refine zy_top (b := aV mk (y % 5) z) ((by unfold aV; rw [if_neg h109, if_neg h122, if_neg h135, if_neg h148])) ?_
                refine zy_istore [zf 9 0, zi mk, zi u, zi x, zi y, zi z, zi (D 12 0), zi 0, zi (y % 5), zi (aV mk (y % 5) z), zu, zu, zu, zu] dL_acts_167 (Nat.le_of_ble_eq_true rfl) (Nat.le_of_ble_eq_true rfl) rfl rfl ?_
                refine zx_aloadN dL_acts_169 rfl rfl ?_
                refine zx_iload dL_acts_170 rfl ?_
                refine zx_iconst dL_acts_172 ?_
                refine zx_iloadN dL_acts_173 rfl rfl ?_
                refine zx_bipush dL_acts_174 rfl ?_
                refine zx_irem (by omega) (by omega) (by omega) (by omega) dL_acts_176 ?_
                refine zx_iadd dL_acts_177 ?_
                refine zx_iload dL_acts_178 rfl ?_
                refine zx_iconst dL_acts_180 ?_
                refine zx_iloadN dL_acts_181 rfl rfl ?_
                refine zx_iload dL_acts_182 rfl ?_
                refine zx_iadd dL_acts_184 ?_
                refine zx_bipush dL_acts_185 rfl ?_
                refine zx_irem (by omega) (by omega) (by omega) (by omega) dL_acts_187 ?_
                refine zx_iadd dL_acts_188 ?_
                by_cases hb189 : D 12 0 < 40
                · refine zy_csHR [zf 9 0, zi (y % 5), zi (1 + (x % 30)), zi (aV mk (y % 5) z), zi (1 + ((x + z) % 9))] (sL_does_add  hfl hz hB hW (HN_j hN (zSame_rf _ _)) (HBA_j hA (zSame_rf _ _)) (by first | assumption | omega) (by first | assumption | omega) (by first | assumption | omega) (by first | assumption | omega)) dL_acts_189 cw_RL_231 okL_does rfl (Nat.le_of_ble_eq_true rfl) ⟨Nat.le_of_ble_eq_true rfl, Nat.le_of_ble_eq_true rfl, Nat.le_of_ble_eq_true rfl, Nat.le_of_ble_eq_true rfl⟩ (fun τ189 hr189 => ?_)
                  have hz189 : zOK τ189 := hr189.1
                  have hl := hr189.2.2.2.2.2.2
                  have hWn := hr189.2.2.2.2.2.1
                  have hzDn := hzDof (rfl : bK τ189 = bK τ189) hz189
                  obtain ⟨e12, e14, e15, e17, e18⟩ := ad_post hl (by omega)
                  refine zy_istore [zf 9 0, zi mk, zi u, zi x, zi y, zi z, zi (D 12 0), zi 0, zi (y % 5), zi (aV mk (y % 5) z), zi (D 12 0), zu, zu, zu] dL_acts_192 (Nat.le_of_ble_eq_true rfl) (Nat.le_of_ble_eq_true rfl) rfl rfl ?_
                  refine zx_iload dL_acts_194 rfl ?_
                  refine zx_bipush dL_acts_196 rfl ?_
                  refine zx_icmp_ne (tgt := 216) (by first | exact hz189 _ _ | assumption | exact zr_b _ | exact zcmp_r _ _ | exact hzD _ _ | exact zr3 (tS_b hW _) | exact zr3 (lsc_b hW _ _) | exact zr3 (sc_b hW _ _) | exact rkP_zr hW _ | exact scA_zr hW _ _ | exact zr3 (cW_b hW) | exact zr3 (wS_b hW) | exact zr3 (wS_b hWn) | (unfold zr at *; omega)) (by first | exact hz189 _ _ | assumption | exact zr_b _ | exact zcmp_r _ _ | exact hzD _ _ | exact zr3 (tS_b hW _) | exact zr3 (lsc_b hW _ _) | exact zr3 (sc_b hW _ _) | exact rkP_zr hW _ | exact scA_zr hW _ _ | exact zr3 (cW_b hW) | exact zr3 (wS_b hW) | exact zr3 (wS_b hWn) | (unfold zr at *; omega)) dL_acts_198 (by decide) (fun h198 => ?_) (fun h198 => ?_)
                  · refine zx_iload dL_acts_216 rfl ?_
                    refine zx_iload dL_acts_218 rfl ?_
                    refine zx_icmp_ne (tgt := 267) (by first | exact hz189 _ _ | assumption | exact zr_b _ | exact zcmp_r _ _ | exact hzD _ _ | exact zr3 (tS_b hW _) | exact zr3 (lsc_b hW _ _) | exact zr3 (sc_b hW _ _) | exact rkP_zr hW _ | exact scA_zr hW _ _ | exact zr3 (cW_b hW) | exact zr3 (wS_b hW) | exact zr3 (wS_b hWn) | (unfold zr at *; omega)) (by first | exact hz189 _ _ | assumption | exact zr_b _ | exact zcmp_r _ _ | exact hzD _ _ | exact zr3 (tS_b hW _) | exact zr3 (lsc_b hW _ _) | exact zr3 (sc_b hW _ _) | exact rkP_zr hW _ | exact scA_zr hW _ _ | exact zr3 (cW_b hW) | exact zr3 (wS_b hW) | exact zr3 (wS_b hWn) | (unfold zr at *; omega)) dL_acts_220 (by decide) (fun h220 => ?_) (fun h220 => ?_)
                    · exfalso; omega
                    · refine zx_aloadN dL_acts_223 rfl rfl ?_
                      refine zx_iload dL_acts_224 rfl ?_
                      refine zy_cv [zi (D 12 0)] (fX9_isRead  hfl hz189 rfl hr189.2.2.2.2.2.1 (by first | exact hz189 _ _ | assumption | exact zr_b _ | exact zcmp_r _ _ | exact hzD _ _ | exact zr3 (tS_b hW _) | exact zr3 (lsc_b hW _ _) | exact zr3 (sc_b hW _ _) | exact rkP_zr hW _ | exact scA_zr hW _ _ | exact zr3 (cW_b hW) | exact zr3 (wS_b hW) | exact zr3 (wS_b hWn) | (unfold zr at *; omega)) (by first | assumption | omega)) dL_acts_226 (by decide) rfl cw_RL_122 okX9_isRead rfl (Nat.le_of_ble_eq_true rfl) ⟨Nat.le_of_ble_eq_true rfl, Nat.le_of_ble_eq_true rfl, Nat.le_of_ble_eq_true rfl, Nat.le_of_ble_eq_true rfl⟩ ?_
                      refine zx_if_ne (tgt := 267) (by first | exact hz189 _ _ | assumption | exact zr_b _ | exact zcmp_r _ _ | exact hzD _ _ | exact zr3 (tS_b hW _) | exact zr3 (lsc_b hW _ _) | exact zr3 (sc_b hW _ _) | exact rkP_zr hW _ | exact scA_zr hW _ _ | exact zr3 (cW_b hW) | exact zr3 (wS_b hW) | exact zr3 (wS_b hWn) | (unfold zr at *; omega)) dL_acts_229 (by decide) (fun h229 => ?_) (fun h229 => ?_)
                      · exfalso; omega
                      · refine zx_aloadN dL_acts_232 rfl rfl ?_
                        refine zx_iload dL_acts_233 rfl ?_
                        refine zy_cv [zi (D 12 0)] (fX9_isAside  hfl hz189 rfl hr189.2.2.2.2.2.1 (by first | exact hz189 _ _ | assumption | exact zr_b _ | exact zcmp_r _ _ | exact hzD _ _ | exact zr3 (tS_b hW _) | exact zr3 (lsc_b hW _ _) | exact zr3 (sc_b hW _ _) | exact rkP_zr hW _ | exact scA_zr hW _ _ | exact zr3 (cW_b hW) | exact zr3 (wS_b hW) | exact zr3 (wS_b hWn) | (unfold zr at *; omega)) (by first | assumption | omega)) dL_acts_235 (by decide) rfl cw_RL_128 okX9_isAside rfl (Nat.le_of_ble_eq_true rfl) ⟨Nat.le_of_ble_eq_true rfl, Nat.le_of_ble_eq_true rfl, Nat.le_of_ble_eq_true rfl, Nat.le_of_ble_eq_true rfl⟩ ?_
                        refine zx_if_ne (tgt := 267) (by first | exact hz189 _ _ | assumption | exact zr_b _ | exact zcmp_r _ _ | exact hzD _ _ | exact zr3 (tS_b hW _) | exact zr3 (lsc_b hW _ _) | exact zr3 (sc_b hW _ _) | exact rkP_zr hW _ | exact scA_zr hW _ _ | exact zr3 (cW_b hW) | exact zr3 (wS_b hW) | exact zr3 (wS_b hWn) | (unfold zr at *; omega)) dL_acts_238 (by decide) (fun h238 => ?_) (fun h238 => ?_)
                        · exfalso; omega
                        · refine zx_aloadN dL_acts_241 rfl rfl ?_
                          refine zx_iload dL_acts_242 rfl ?_
                          refine zy_cv [zi (D 12 0)] (fX9_kindOf  hfl hz189 rfl hr189.2.2.2.2.2.1 (by first | exact hz189 _ _ | assumption | exact zr_b _ | exact zcmp_r _ _ | exact hzD _ _ | exact zr3 (tS_b hW _) | exact zr3 (lsc_b hW _ _) | exact zr3 (sc_b hW _ _) | exact rkP_zr hW _ | exact scA_zr hW _ _ | exact zr3 (cW_b hW) | exact zr3 (wS_b hW) | exact zr3 (wS_b hWn) | (unfold zr at *; omega)) (by first | assumption | omega)) dL_acts_244 (by decide) rfl cw_RL_109 okX9_kindOf rfl (Nat.le_of_ble_eq_true rfl) ⟨Nat.le_of_ble_eq_true rfl, Nat.le_of_ble_eq_true rfl, Nat.le_of_ble_eq_true rfl, Nat.le_of_ble_eq_true rfl⟩ ?_
                          refine zx_iload dL_acts_247 rfl ?_
                          refine zx_icmp_ne (tgt := 267) (by first | exact hz189 _ _ | assumption | exact zr_b _ | exact zcmp_r _ _ | exact hzD _ _ | exact zr3 (tS_b hW _) | exact zr3 (lsc_b hW _ _) | exact zr3 (sc_b hW _ _) | exact rkP_zr hW _ | exact scA_zr hW _ _ | exact zr3 (cW_b hW) | exact zr3 (wS_b hW) | exact zr3 (wS_b hWn) | (unfold zr at *; omega)) (by first | exact hz189 _ _ | assumption | exact zr_b _ | exact zcmp_r _ _ | exact hzD _ _ | exact zr3 (tS_b hW _) | exact zr3 (lsc_b hW _ _) | exact zr3 (sc_b hW _ _) | exact rkP_zr hW _ | exact scA_zr hW _ _ | exact zr3 (cW_b hW) | exact zr3 (wS_b hW) | exact zr3 (wS_b hWn) | (unfold zr at *; omega)) dL_acts_249 (by decide) (fun h249 => ?_) (fun h249 => ?_)
                          · exfalso; omega
                          · refine zx_aloadN dL_acts_252 rfl rfl ?_
                            refine zx_iload dL_acts_253 rfl ?_
                            refine zy_cv [zi (D 12 0)] (fX9_valueOf  hfl hz189 rfl hr189.2.2.2.2.2.1 (by first | exact hz189 _ _ | assumption | exact zr_b _ | exact zcmp_r _ _ | exact hzD _ _ | exact zr3 (tS_b hW _) | exact zr3 (lsc_b hW _ _) | exact zr3 (sc_b hW _ _) | exact rkP_zr hW _ | exact scA_zr hW _ _ | exact zr3 (cW_b hW) | exact zr3 (wS_b hW) | exact zr3 (wS_b hWn) | (unfold zr at *; omega)) (by first | assumption | omega)) dL_acts_255 (by decide) rfl cw_RL_114 okX9_valueOf rfl (Nat.le_of_ble_eq_true rfl) ⟨Nat.le_of_ble_eq_true rfl, Nat.le_of_ble_eq_true rfl, Nat.le_of_ble_eq_true rfl, Nat.le_of_ble_eq_true rfl⟩ ?_
                            refine zx_iload dL_acts_258 rfl ?_
                            refine zx_icmp_ne (tgt := 267) (by first | exact hz189 _ _ | assumption | exact zr_b _ | exact zcmp_r _ _ | exact hzD _ _ | exact zr3 (tS_b hW _) | exact zr3 (lsc_b hW _ _) | exact zr3 (sc_b hW _ _) | exact rkP_zr hW _ | exact scA_zr hW _ _ | exact zr3 (cW_b hW) | exact zr3 (wS_b hW) | exact zr3 (wS_b hWn) | (unfold zr at *; omega)) (by first | exact hz189 _ _ | assumption | exact zr_b _ | exact zcmp_r _ _ | exact hzD _ _ | exact zr3 (tS_b hW _) | exact zr3 (lsc_b hW _ _) | exact zr3 (sc_b hW _ _) | exact rkP_zr hW _ | exact scA_zr hW _ _ | exact zr3 (cW_b hW) | exact zr3 (wS_b hW) | exact zr3 (wS_b hWn) | (unfold zr at *; omega)) dL_acts_260 (by decide) (fun h260 => ?_) (fun h260 => ?_)
                            · exfalso; omega
                            · refine zx_iconst dL_acts_263 ?_
                              refine zx_goto (tgt := 268) dL_acts_264 (by decide) ?_
                              refine zx_iret rfl rfl dL_acts_268 ?_
                              rw [hQ]
                              refine ⟨congrArg (fun z : Int => (Sum.inl (some (zi z)) : Option zV ⊕ String)) ?_, ?_⟩
                              · first | rfl | assumption | omega
                              exact AP_e (aB_1 hu.2 (by omega)) (AP_d (zSame_rf _ _) hr189 (zSame_rf _ _) hz189)
                  · refine zx_iload dL_acts_201 rfl ?_
                    refine zx_bipush dL_acts_203 rfl ?_
                    refine zx_icmp_ne (tgt := 212) (by first | exact hz189 _ _ | assumption | exact zr_b _ | exact zcmp_r _ _ | exact hzD _ _ | exact zr3 (tS_b hW _) | exact zr3 (lsc_b hW _ _) | exact zr3 (sc_b hW _ _) | exact rkP_zr hW _ | exact scA_zr hW _ _ | exact zr3 (cW_b hW) | exact zr3 (wS_b hW) | exact zr3 (wS_b hWn) | (unfold zr at *; omega)) (by first | exact hz189 _ _ | assumption | exact zr_b _ | exact zcmp_r _ _ | exact hzD _ _ | exact zr3 (tS_b hW _) | exact zr3 (lsc_b hW _ _) | exact zr3 (sc_b hW _ _) | exact rkP_zr hW _ | exact scA_zr hW _ _ | exact zr3 (cW_b hW) | exact zr3 (wS_b hW) | exact zr3 (wS_b hWn) | (unfold zr at *; omega)) dL_acts_205 (by decide) (fun h205 => ?_) (fun h205 => ?_)
                    · exfalso; omega
                    · refine zx_iconst dL_acts_208 ?_
                      refine zx_goto (tgt := 268) dL_acts_209 (by decide) ?_
                      refine zx_iret rfl rfl dL_acts_268 ?_
                      rw [hQ]
                      refine ⟨congrArg (fun z : Int => (Sum.inl (some (zi z)) : Option zV ⊕ String)) ?_, ?_⟩
                      · first | rfl | assumption | omega
                      exact AP_e (aB_1 hu.2 (by omega)) (AP_d (zSame_rf _ _) hr189 (zSame_rf _ _) hz189)
                · refine zy_csHR [zf 9 0, zi (y % 5), zi (1 + (x % 30)), zi (aV mk (y % 5) z), zi (1 + ((x + z) % 9))] (sL_does_addF  hfl hz hB hW (HN_j hN (zSame_rf _ _)) (HBA_j hA (zSame_rf _ _)) (by first | assumption | omega) (by first | assumption | omega) (by first | assumption | omega) (by first | assumption | omega)) dL_acts_189 cw_RL_231 okL_does rfl (Nat.le_of_ble_eq_true rfl) ⟨Nat.le_of_ble_eq_true rfl, Nat.le_of_ble_eq_true rfl, Nat.le_of_ble_eq_true rfl, Nat.le_of_ble_eq_true rfl⟩ (fun τ189 hr189 => ?_)
                  have hz189 : zOK τ189 := hr189.1
                  refine zy_istore [zf 9 0, zi mk, zi u, zi x, zi y, zi z, zi (D 12 0), zi 0, zi (y % 5), zi (aV mk (y % 5) z), zi (-103), zu, zu, zu] dL_acts_192 (Nat.le_of_ble_eq_true rfl) (Nat.le_of_ble_eq_true rfl) rfl rfl ?_
                  refine zx_iload dL_acts_194 rfl ?_
                  refine zx_bipush dL_acts_196 rfl ?_
                  refine zx_icmp_ne (tgt := 216) (by first | exact hz189 _ _ | assumption | exact zr_b _ | exact zcmp_r _ _ | exact hzD _ _ | exact zr3 (tS_b hW _) | exact zr3 (lsc_b hW _ _) | exact zr3 (sc_b hW _ _) | exact rkP_zr hW _ | exact scA_zr hW _ _ | exact zr3 (cW_b hW) | exact zr3 (wS_b hW) | exact zr3 (wS_b hWn) | (unfold zr at *; omega)) (by first | exact hz189 _ _ | assumption | exact zr_b _ | exact zcmp_r _ _ | exact hzD _ _ | exact zr3 (tS_b hW _) | exact zr3 (lsc_b hW _ _) | exact zr3 (sc_b hW _ _) | exact rkP_zr hW _ | exact scA_zr hW _ _ | exact zr3 (cW_b hW) | exact zr3 (wS_b hW) | exact zr3 (wS_b hWn) | (unfold zr at *; omega)) dL_acts_198 (by decide) (fun h198 => ?_) (fun h198 => ?_)
                  · exfalso; omega
                  · refine zx_iload dL_acts_201 rfl ?_
                    refine zx_bipush dL_acts_203 rfl ?_
                    refine zx_icmp_ne (tgt := 212) (by first | exact hz189 _ _ | assumption | exact zr_b _ | exact zcmp_r _ _ | exact hzD _ _ | exact zr3 (tS_b hW _) | exact zr3 (lsc_b hW _ _) | exact zr3 (sc_b hW _ _) | exact rkP_zr hW _ | exact scA_zr hW _ _ | exact zr3 (cW_b hW) | exact zr3 (wS_b hW) | exact zr3 (wS_b hWn) | (unfold zr at *; omega)) (by first | exact hz189 _ _ | assumption | exact zr_b _ | exact zcmp_r _ _ | exact hzD _ _ | exact zr3 (tS_b hW _) | exact zr3 (lsc_b hW _ _) | exact zr3 (sc_b hW _ _) | exact rkP_zr hW _ | exact scA_zr hW _ _ | exact zr3 (cW_b hW) | exact zr3 (wS_b hW) | exact zr3 (wS_b hWn) | (unfold zr at *; omega)) dL_acts_205 (by decide) (fun h205 => ?_) (fun h205 => ?_)
                    · exact absurd h205 (by decide)
                    · refine zx_iconst dL_acts_208 ?_
                      refine zx_goto (tgt := 268) dL_acts_209 (by decide) ?_
                      refine zx_iret rfl rfl dL_acts_268 ?_
                      rw [hQ]
                      refine ⟨congrArg (fun z : Int => (Sum.inl (some (zi z)) : Option zV ⊕ String)) ?_, ?_⟩
                      · first | rfl | assumption | omega
                      exact AP_e (aB_0 hu.2 (by omega)) (AP_f hW (zSame_rf _ _) hr189 (zSame_rf _ _) hz189 rfl)
              · refine zx_iload dL_acts_151 rfl ?_
                refine zx_iconst dL_acts_153 ?_
                refine zx_irem (by omega) (by omega) (by omega) (by omega) dL_acts_154 ?_
                refine zy_top (b := aV mk (y % 5) z) ((by unfold aV; rw [if_neg h109, if_neg h122, if_neg h135, if_pos h148])) ?_
                refine zx_goto (tgt := 167) dL_acts_155 (by decide) ?_
                refine zy_istore [zf 9 0, zi mk, zi u, zi x, zi y, zi z, zi (D 12 0), zi 0, zi (y % 5), zi (aV mk (y % 5) z), zu, zu, zu, zu] dL_acts_167 (Nat.le_of_ble_eq_true rfl) (Nat.le_of_ble_eq_true rfl) rfl rfl ?_
                refine zx_aloadN dL_acts_169 rfl rfl ?_
                refine zx_iload dL_acts_170 rfl ?_
                refine zx_iconst dL_acts_172 ?_
                refine zx_iloadN dL_acts_173 rfl rfl ?_
                refine zx_bipush dL_acts_174 rfl ?_
                refine zx_irem (by omega) (by omega) (by omega) (by omega) dL_acts_176 ?_
                refine zx_iadd dL_acts_177 ?_
                refine zx_iload dL_acts_178 rfl ?_
                refine zx_iconst dL_acts_180 ?_
                refine zx_iloadN dL_acts_181 rfl rfl ?_
                refine zx_iload dL_acts_182 rfl ?_
                refine zx_iadd dL_acts_184 ?_
                refine zx_bipush dL_acts_185 rfl ?_
                refine zx_irem (by omega) (by omega) (by omega) (by omega) dL_acts_187 ?_
                refine zx_iadd dL_acts_188 ?_
                by_cases hb189 : D 12 0 < 40
                · refine zy_csHR [zf 9 0, zi (y % 5), zi (1 + (x % 30)), zi (aV mk (y % 5) z), zi (1 + ((x + z) % 9))] (sL_does_add  hfl hz hB hW (HN_j hN (zSame_rf _ _)) (HBA_j hA (zSame_rf _ _)) (by first | assumption | omega) (by first | assumption | omega) (by first | assumption | omega) (by first | assumption | omega)) dL_acts_189 cw_RL_231 okL_does rfl (Nat.le_of_ble_eq_true rfl) ⟨Nat.le_of_ble_eq_true rfl, Nat.le_of_ble_eq_true rfl, Nat.le_of_ble_eq_true rfl, Nat.le_of_ble_eq_true rfl⟩ (fun τ189 hr189 => ?_)
                  have hz189 : zOK τ189 := hr189.1
                  have hl := hr189.2.2.2.2.2.2
                  have hWn := hr189.2.2.2.2.2.1
                  have hzDn := hzDof (rfl : bK τ189 = bK τ189) hz189
                  obtain ⟨e12, e14, e15, e17, e18⟩ := ad_post hl (by omega)
                  refine zy_istore [zf 9 0, zi mk, zi u, zi x, zi y, zi z, zi (D 12 0), zi 0, zi (y % 5), zi (aV mk (y % 5) z), zi (D 12 0), zu, zu, zu] dL_acts_192 (Nat.le_of_ble_eq_true rfl) (Nat.le_of_ble_eq_true rfl) rfl rfl ?_
                  refine zx_iload dL_acts_194 rfl ?_
                  refine zx_bipush dL_acts_196 rfl ?_
                  refine zx_icmp_ne (tgt := 216) (by first | exact hz189 _ _ | assumption | exact zr_b _ | exact zcmp_r _ _ | exact hzD _ _ | exact zr3 (tS_b hW _) | exact zr3 (lsc_b hW _ _) | exact zr3 (sc_b hW _ _) | exact rkP_zr hW _ | exact scA_zr hW _ _ | exact zr3 (cW_b hW) | exact zr3 (wS_b hW) | exact zr3 (wS_b hWn) | (unfold zr at *; omega)) (by first | exact hz189 _ _ | assumption | exact zr_b _ | exact zcmp_r _ _ | exact hzD _ _ | exact zr3 (tS_b hW _) | exact zr3 (lsc_b hW _ _) | exact zr3 (sc_b hW _ _) | exact rkP_zr hW _ | exact scA_zr hW _ _ | exact zr3 (cW_b hW) | exact zr3 (wS_b hW) | exact zr3 (wS_b hWn) | (unfold zr at *; omega)) dL_acts_198 (by decide) (fun h198 => ?_) (fun h198 => ?_)
                  · refine zx_iload dL_acts_216 rfl ?_
                    refine zx_iload dL_acts_218 rfl ?_
                    refine zx_icmp_ne (tgt := 267) (by first | exact hz189 _ _ | assumption | exact zr_b _ | exact zcmp_r _ _ | exact hzD _ _ | exact zr3 (tS_b hW _) | exact zr3 (lsc_b hW _ _) | exact zr3 (sc_b hW _ _) | exact rkP_zr hW _ | exact scA_zr hW _ _ | exact zr3 (cW_b hW) | exact zr3 (wS_b hW) | exact zr3 (wS_b hWn) | (unfold zr at *; omega)) (by first | exact hz189 _ _ | assumption | exact zr_b _ | exact zcmp_r _ _ | exact hzD _ _ | exact zr3 (tS_b hW _) | exact zr3 (lsc_b hW _ _) | exact zr3 (sc_b hW _ _) | exact rkP_zr hW _ | exact scA_zr hW _ _ | exact zr3 (cW_b hW) | exact zr3 (wS_b hW) | exact zr3 (wS_b hWn) | (unfold zr at *; omega)) dL_acts_220 (by decide) (fun h220 => ?_) (fun h220 => ?_)
                    · exfalso; omega
                    · refine zx_aloadN dL_acts_223 rfl rfl ?_
                      refine zx_iload dL_acts_224 rfl ?_
                      refine zy_cv [zi (D 12 0)] (fX9_isRead  hfl hz189 rfl hr189.2.2.2.2.2.1 (by first | exact hz189 _ _ | assumption | exact zr_b _ | exact zcmp_r _ _ | exact hzD _ _ | exact zr3 (tS_b hW _) | exact zr3 (lsc_b hW _ _) | exact zr3 (sc_b hW _ _) | exact rkP_zr hW _ | exact scA_zr hW _ _ | exact zr3 (cW_b hW) | exact zr3 (wS_b hW) | exact zr3 (wS_b hWn) | (unfold zr at *; omega)) (by first | assumption | omega)) dL_acts_226 (by decide) rfl cw_RL_122 okX9_isRead rfl (Nat.le_of_ble_eq_true rfl) ⟨Nat.le_of_ble_eq_true rfl, Nat.le_of_ble_eq_true rfl, Nat.le_of_ble_eq_true rfl, Nat.le_of_ble_eq_true rfl⟩ ?_
                      refine zx_if_ne (tgt := 267) (by first | exact hz189 _ _ | assumption | exact zr_b _ | exact zcmp_r _ _ | exact hzD _ _ | exact zr3 (tS_b hW _) | exact zr3 (lsc_b hW _ _) | exact zr3 (sc_b hW _ _) | exact rkP_zr hW _ | exact scA_zr hW _ _ | exact zr3 (cW_b hW) | exact zr3 (wS_b hW) | exact zr3 (wS_b hWn) | (unfold zr at *; omega)) dL_acts_229 (by decide) (fun h229 => ?_) (fun h229 => ?_)
                      · exfalso; omega
                      · refine zx_aloadN dL_acts_232 rfl rfl ?_
                        refine zx_iload dL_acts_233 rfl ?_
                        refine zy_cv [zi (D 12 0)] (fX9_isAside  hfl hz189 rfl hr189.2.2.2.2.2.1 (by first | exact hz189 _ _ | assumption | exact zr_b _ | exact zcmp_r _ _ | exact hzD _ _ | exact zr3 (tS_b hW _) | exact zr3 (lsc_b hW _ _) | exact zr3 (sc_b hW _ _) | exact rkP_zr hW _ | exact scA_zr hW _ _ | exact zr3 (cW_b hW) | exact zr3 (wS_b hW) | exact zr3 (wS_b hWn) | (unfold zr at *; omega)) (by first | assumption | omega)) dL_acts_235 (by decide) rfl cw_RL_128 okX9_isAside rfl (Nat.le_of_ble_eq_true rfl) ⟨Nat.le_of_ble_eq_true rfl, Nat.le_of_ble_eq_true rfl, Nat.le_of_ble_eq_true rfl, Nat.le_of_ble_eq_true rfl⟩ ?_
                        refine zx_if_ne (tgt := 267) (by first | exact hz189 _ _ | assumption | exact zr_b _ | exact zcmp_r _ _ | exact hzD _ _ | exact zr3 (tS_b hW _) | exact zr3 (lsc_b hW _ _) | exact zr3 (sc_b hW _ _) | exact rkP_zr hW _ | exact scA_zr hW _ _ | exact zr3 (cW_b hW) | exact zr3 (wS_b hW) | exact zr3 (wS_b hWn) | (unfold zr at *; omega)) dL_acts_238 (by decide) (fun h238 => ?_) (fun h238 => ?_)
                        · exfalso; omega
                        · refine zx_aloadN dL_acts_241 rfl rfl ?_
                          refine zx_iload dL_acts_242 rfl ?_
                          refine zy_cv [zi (D 12 0)] (fX9_kindOf  hfl hz189 rfl hr189.2.2.2.2.2.1 (by first | exact hz189 _ _ | assumption | exact zr_b _ | exact zcmp_r _ _ | exact hzD _ _ | exact zr3 (tS_b hW _) | exact zr3 (lsc_b hW _ _) | exact zr3 (sc_b hW _ _) | exact rkP_zr hW _ | exact scA_zr hW _ _ | exact zr3 (cW_b hW) | exact zr3 (wS_b hW) | exact zr3 (wS_b hWn) | (unfold zr at *; omega)) (by first | assumption | omega)) dL_acts_244 (by decide) rfl cw_RL_109 okX9_kindOf rfl (Nat.le_of_ble_eq_true rfl) ⟨Nat.le_of_ble_eq_true rfl, Nat.le_of_ble_eq_true rfl, Nat.le_of_ble_eq_true rfl, Nat.le_of_ble_eq_true rfl⟩ ?_
                          refine zx_iload dL_acts_247 rfl ?_
                          refine zx_icmp_ne (tgt := 267) (by first | exact hz189 _ _ | assumption | exact zr_b _ | exact zcmp_r _ _ | exact hzD _ _ | exact zr3 (tS_b hW _) | exact zr3 (lsc_b hW _ _) | exact zr3 (sc_b hW _ _) | exact rkP_zr hW _ | exact scA_zr hW _ _ | exact zr3 (cW_b hW) | exact zr3 (wS_b hW) | exact zr3 (wS_b hWn) | (unfold zr at *; omega)) (by first | exact hz189 _ _ | assumption | exact zr_b _ | exact zcmp_r _ _ | exact hzD _ _ | exact zr3 (tS_b hW _) | exact zr3 (lsc_b hW _ _) | exact zr3 (sc_b hW _ _) | exact rkP_zr hW _ | exact scA_zr hW _ _ | exact zr3 (cW_b hW) | exact zr3 (wS_b hW) | exact zr3 (wS_b hWn) | (unfold zr at *; omega)) dL_acts_249 (by decide) (fun h249 => ?_) (fun h249 => ?_)
                          · exfalso; omega
                          · refine zx_aloadN dL_acts_252 rfl rfl ?_
                            refine zx_iload dL_acts_253 rfl ?_
                            refine zy_cv [zi (D 12 0)] (fX9_valueOf  hfl hz189 rfl hr189.2.2.2.2.2.1 (by first | exact hz189 _ _ | assumption | exact zr_b _ | exact zcmp_r _ _ | exact hzD _ _ | exact zr3 (tS_b hW _) | exact zr3 (lsc_b hW _ _) | exact zr3 (sc_b hW _ _) | exact rkP_zr hW _ | exact scA_zr hW _ _ | exact zr3 (cW_b hW) | exact zr3 (wS_b hW) | exact zr3 (wS_b hWn) | (unfold zr at *; omega)) (by first | assumption | omega)) dL_acts_255 (by decide) rfl cw_RL_114 okX9_valueOf rfl (Nat.le_of_ble_eq_true rfl) ⟨Nat.le_of_ble_eq_true rfl, Nat.le_of_ble_eq_true rfl, Nat.le_of_ble_eq_true rfl, Nat.le_of_ble_eq_true rfl⟩ ?_
                            refine zx_iload dL_acts_258 rfl ?_
                            refine zx_icmp_ne (tgt := 267) (by first | exact hz189 _ _ | assumption | exact zr_b _ | exact zcmp_r _ _ | exact hzD _ _ | exact zr3 (tS_b hW _) | exact zr3 (lsc_b hW _ _) | exact zr3 (sc_b hW _ _) | exact rkP_zr hW _ | exact scA_zr hW _ _ | exact zr3 (cW_b hW) | exact zr3 (wS_b hW) | exact zr3 (wS_b hWn) | (unfold zr at *; omega)) (by first | exact hz189 _ _ | assumption | exact zr_b _ | exact zcmp_r _ _ | exact hzD _ _ | exact zr3 (tS_b hW _) | exact zr3 (lsc_b hW _ _) | exact zr3 (sc_b hW _ _) | exact rkP_zr hW _ | exact scA_zr hW _ _ | exact zr3 (cW_b hW) | exact zr3 (wS_b hW) | exact zr3 (wS_b hWn) | (unfold zr at *; omega)) dL_acts_260 (by decide) (fun h260 => ?_) (fun h260 => ?_)
                            · exfalso; omega
                            · refine zx_iconst dL_acts_263 ?_
                              refine zx_goto (tgt := 268) dL_acts_264 (by decide) ?_
                              refine zx_iret rfl rfl dL_acts_268 ?_
                              rw [hQ]
                              refine ⟨congrArg (fun z : Int => (Sum.inl (some (zi z)) : Option zV ⊕ String)) ?_, ?_⟩
                              · first | rfl | assumption | omega
                              exact AP_e (aB_1 hu.2 (by omega)) (AP_d (zSame_rf _ _) hr189 (zSame_rf _ _) hz189)
                  · refine zx_iload dL_acts_201 rfl ?_
                    refine zx_bipush dL_acts_203 rfl ?_
                    refine zx_icmp_ne (tgt := 212) (by first | exact hz189 _ _ | assumption | exact zr_b _ | exact zcmp_r _ _ | exact hzD _ _ | exact zr3 (tS_b hW _) | exact zr3 (lsc_b hW _ _) | exact zr3 (sc_b hW _ _) | exact rkP_zr hW _ | exact scA_zr hW _ _ | exact zr3 (cW_b hW) | exact zr3 (wS_b hW) | exact zr3 (wS_b hWn) | (unfold zr at *; omega)) (by first | exact hz189 _ _ | assumption | exact zr_b _ | exact zcmp_r _ _ | exact hzD _ _ | exact zr3 (tS_b hW _) | exact zr3 (lsc_b hW _ _) | exact zr3 (sc_b hW _ _) | exact rkP_zr hW _ | exact scA_zr hW _ _ | exact zr3 (cW_b hW) | exact zr3 (wS_b hW) | exact zr3 (wS_b hWn) | (unfold zr at *; omega)) dL_acts_205 (by decide) (fun h205 => ?_) (fun h205 => ?_)
                    · exfalso; omega
                    · refine zx_iconst dL_acts_208 ?_
                      refine zx_goto (tgt := 268) dL_acts_209 (by decide) ?_
                      refine zx_iret rfl rfl dL_acts_268 ?_
                      rw [hQ]
                      refine ⟨congrArg (fun z : Int => (Sum.inl (some (zi z)) : Option zV ⊕ String)) ?_, ?_⟩
                      · first | rfl | assumption | omega
                      exact AP_e (aB_1 hu.2 (by omega)) (AP_d (zSame_rf _ _) hr189 (zSame_rf _ _) hz189)
                · refine zy_csHR [zf 9 0, zi (y % 5), zi (1 + (x % 30)), zi (aV mk (y % 5) z), zi (1 + ((x + z) % 9))] (sL_does_addF  hfl hz hB hW (HN_j hN (zSame_rf _ _)) (HBA_j hA (zSame_rf _ _)) (by first | assumption | omega) (by first | assumption | omega) (by first | assumption | omega) (by first | assumption | omega)) dL_acts_189 cw_RL_231 okL_does rfl (Nat.le_of_ble_eq_true rfl) ⟨Nat.le_of_ble_eq_true rfl, Nat.le_of_ble_eq_true rfl, Nat.le_of_ble_eq_true rfl, Nat.le_of_ble_eq_true rfl⟩ (fun τ189 hr189 => ?_)
                  have hz189 : zOK τ189 := hr189.1
                  refine zy_istore [zf 9 0, zi mk, zi u, zi x, zi y, zi z, zi (D 12 0), zi 0, zi (y % 5), zi (aV mk (y % 5) z), zi (-103), zu, zu, zu] dL_acts_192 (Nat.le_of_ble_eq_true rfl) (Nat.le_of_ble_eq_true rfl) rfl rfl ?_
                  refine zx_iload dL_acts_194 rfl ?_
                  refine zx_bipush dL_acts_196 rfl ?_
                  refine zx_icmp_ne (tgt := 216) (by first | exact hz189 _ _ | assumption | exact zr_b _ | exact zcmp_r _ _ | exact hzD _ _ | exact zr3 (tS_b hW _) | exact zr3 (lsc_b hW _ _) | exact zr3 (sc_b hW _ _) | exact rkP_zr hW _ | exact scA_zr hW _ _ | exact zr3 (cW_b hW) | exact zr3 (wS_b hW) | exact zr3 (wS_b hWn) | (unfold zr at *; omega)) (by first | exact hz189 _ _ | assumption | exact zr_b _ | exact zcmp_r _ _ | exact hzD _ _ | exact zr3 (tS_b hW _) | exact zr3 (lsc_b hW _ _) | exact zr3 (sc_b hW _ _) | exact rkP_zr hW _ | exact scA_zr hW _ _ | exact zr3 (cW_b hW) | exact zr3 (wS_b hW) | exact zr3 (wS_b hWn) | (unfold zr at *; omega)) dL_acts_198 (by decide) (fun h198 => ?_) (fun h198 => ?_)
                  · exfalso; omega
                  · refine zx_iload dL_acts_201 rfl ?_
                    refine zx_bipush dL_acts_203 rfl ?_
                    refine zx_icmp_ne (tgt := 212) (by first | exact hz189 _ _ | assumption | exact zr_b _ | exact zcmp_r _ _ | exact hzD _ _ | exact zr3 (tS_b hW _) | exact zr3 (lsc_b hW _ _) | exact zr3 (sc_b hW _ _) | exact rkP_zr hW _ | exact scA_zr hW _ _ | exact zr3 (cW_b hW) | exact zr3 (wS_b hW) | exact zr3 (wS_b hWn) | (unfold zr at *; omega)) (by first | exact hz189 _ _ | assumption | exact zr_b _ | exact zcmp_r _ _ | exact hzD _ _ | exact zr3 (tS_b hW _) | exact zr3 (lsc_b hW _ _) | exact zr3 (sc_b hW _ _) | exact rkP_zr hW _ | exact scA_zr hW _ _ | exact zr3 (cW_b hW) | exact zr3 (wS_b hW) | exact zr3 (wS_b hWn) | (unfold zr at *; omega)) dL_acts_205 (by decide) (fun h205 => ?_) (fun h205 => ?_)
                    · exact absurd h205 (by decide)
                    · refine zx_iconst dL_acts_208 ?_
                      refine zx_goto (tgt := 268) dL_acts_209 (by decide) ?_
                      refine zx_iret rfl rfl dL_acts_268 ?_
                      rw [hQ]
                      refine ⟨congrArg (fun z : Int => (Sum.inl (some (zi z)) : Option zV ⊕ String)) ?_, ?_⟩
                      · first | rfl | assumption | omega
                      exact AP_e (aB_0 hu.2 (by omega)) (AP_f hW (zSame_rf _ _) hr189 (zSame_rf _ _) hz189 rfl)
            · refine zx_iload dL_acts_138 rfl ?_
              refine zx_iloadN dL_acts_140 rfl rfl ?_
              refine zx_irem (by omega) (by omega) (by omega) (by omega) dL_acts_141 ?_
              refine zy_top (b := aV mk (y % 5) z) ((by unfold aV; rw [if_neg h109, if_neg h122, if_pos h135])) ?_
              refine zx_goto (tgt := 167) dL_acts_142 (by decide) ?_
              refine zy_istore [zf 9 0, zi mk, zi u, zi x, zi y, zi z, zi (D 12 0), zi 0, zi (y % 5), zi (aV mk (y % 5) z), zu, zu, zu, zu] dL_acts_167 (Nat.le_of_ble_eq_true rfl) (Nat.le_of_ble_eq_true rfl) rfl rfl ?_
              refine zx_aloadN dL_acts_169 rfl rfl ?_
              refine zx_iload dL_acts_170 rfl ?_
              refine zx_iconst dL_acts_172 ?_
              refine zx_iloadN dL_acts_173 rfl rfl ?_
              refine zx_bipush dL_acts_174 rfl ?_
              refine zx_irem (by omega) (by omega) (by omega) (by omega) dL_acts_176 ?_
              refine zx_iadd dL_acts_177 ?_
              refine zx_iload dL_acts_178 rfl ?_
              refine zx_iconst dL_acts_180 ?_
              refine zx_iloadN dL_acts_181 rfl rfl ?_
              refine zx_iload dL_acts_182 rfl ?_
              refine zx_iadd dL_acts_184 ?_
              refine zx_bipush dL_acts_185 rfl ?_
              refine zx_irem (by omega) (by omega) (by omega) (by omega) dL_acts_187 ?_
              refine zx_iadd dL_acts_188 ?_
              by_cases hb189 : D 12 0 < 40
              · refine zy_csHR [zf 9 0, zi (y % 5), zi (1 + (x % 30)), zi (aV mk (y % 5) z), zi (1 + ((x + z) % 9))] (sL_does_add  hfl hz hB hW (HN_j hN (zSame_rf _ _)) (HBA_j hA (zSame_rf _ _)) (by first | assumption | omega) (by first | assumption | omega) (by first | assumption | omega) (by first | assumption | omega)) dL_acts_189 cw_RL_231 okL_does rfl (Nat.le_of_ble_eq_true rfl) ⟨Nat.le_of_ble_eq_true rfl, Nat.le_of_ble_eq_true rfl, Nat.le_of_ble_eq_true rfl, Nat.le_of_ble_eq_true rfl⟩ (fun τ189 hr189 => ?_)
                have hz189 : zOK τ189 := hr189.1
                have hl := hr189.2.2.2.2.2.2
                have hWn := hr189.2.2.2.2.2.1
                have hzDn := hzDof (rfl : bK τ189 = bK τ189) hz189
                obtain ⟨e12, e14, e15, e17, e18⟩ := ad_post hl (by omega)
                refine zy_istore [zf 9 0, zi mk, zi u, zi x, zi y, zi z, zi (D 12 0), zi 0, zi (y % 5), zi (aV mk (y % 5) z), zi (D 12 0), zu, zu, zu] dL_acts_192 (Nat.le_of_ble_eq_true rfl) (Nat.le_of_ble_eq_true rfl) rfl rfl ?_
                refine zx_iload dL_acts_194 rfl ?_
                refine zx_bipush dL_acts_196 rfl ?_
                refine zx_icmp_ne (tgt := 216) (by first | exact hz189 _ _ | assumption | exact zr_b _ | exact zcmp_r _ _ | exact hzD _ _ | exact zr3 (tS_b hW _) | exact zr3 (lsc_b hW _ _) | exact zr3 (sc_b hW _ _) | exact rkP_zr hW _ | exact scA_zr hW _ _ | exact zr3 (cW_b hW) | exact zr3 (wS_b hW) | exact zr3 (wS_b hWn) | (unfold zr at *; omega)) (by first | exact hz189 _ _ | assumption | exact zr_b _ | exact zcmp_r _ _ | exact hzD _ _ | exact zr3 (tS_b hW _) | exact zr3 (lsc_b hW _ _) | exact zr3 (sc_b hW _ _) | exact rkP_zr hW _ | exact scA_zr hW _ _ | exact zr3 (cW_b hW) | exact zr3 (wS_b hW) | exact zr3 (wS_b hWn) | (unfold zr at *; omega)) dL_acts_198 (by decide) (fun h198 => ?_) (fun h198 => ?_)
                · refine zx_iload dL_acts_216 rfl ?_
                  refine zx_iload dL_acts_218 rfl ?_
                  refine zx_icmp_ne (tgt := 267) (by first | exact hz189 _ _ | assumption | exact zr_b _ | exact zcmp_r _ _ | exact hzD _ _ | exact zr3 (tS_b hW _) | exact zr3 (lsc_b hW _ _) | exact zr3 (sc_b hW _ _) | exact rkP_zr hW _ | exact scA_zr hW _ _ | exact zr3 (cW_b hW) | exact zr3 (wS_b hW) | exact zr3 (wS_b hWn) | (unfold zr at *; omega)) (by first | exact hz189 _ _ | assumption | exact zr_b _ | exact zcmp_r _ _ | exact hzD _ _ | exact zr3 (tS_b hW _) | exact zr3 (lsc_b hW _ _) | exact zr3 (sc_b hW _ _) | exact rkP_zr hW _ | exact scA_zr hW _ _ | exact zr3 (cW_b hW) | exact zr3 (wS_b hW) | exact zr3 (wS_b hWn) | (unfold zr at *; omega)) dL_acts_220 (by decide) (fun h220 => ?_) (fun h220 => ?_)
                  · exfalso; omega
                  · refine zx_aloadN dL_acts_223 rfl rfl ?_
                    refine zx_iload dL_acts_224 rfl ?_
                    refine zy_cv [zi (D 12 0)] (fX9_isRead  hfl hz189 rfl hr189.2.2.2.2.2.1 (by first | exact hz189 _ _ | assumption | exact zr_b _ | exact zcmp_r _ _ | exact hzD _ _ | exact zr3 (tS_b hW _) | exact zr3 (lsc_b hW _ _) | exact zr3 (sc_b hW _ _) | exact rkP_zr hW _ | exact scA_zr hW _ _ | exact zr3 (cW_b hW) | exact zr3 (wS_b hW) | exact zr3 (wS_b hWn) | (unfold zr at *; omega)) (by first | assumption | omega)) dL_acts_226 (by decide) rfl cw_RL_122 okX9_isRead rfl (Nat.le_of_ble_eq_true rfl) ⟨Nat.le_of_ble_eq_true rfl, Nat.le_of_ble_eq_true rfl, Nat.le_of_ble_eq_true rfl, Nat.le_of_ble_eq_true rfl⟩ ?_
                    refine zx_if_ne (tgt := 267) (by first | exact hz189 _ _ | assumption | exact zr_b _ | exact zcmp_r _ _ | exact hzD _ _ | exact zr3 (tS_b hW _) | exact zr3 (lsc_b hW _ _) | exact zr3 (sc_b hW _ _) | exact rkP_zr hW _ | exact scA_zr hW _ _ | exact zr3 (cW_b hW) | exact zr3 (wS_b hW) | exact zr3 (wS_b hWn) | (unfold zr at *; omega)) dL_acts_229 (by decide) (fun h229 => ?_) (fun h229 => ?_)
                    · exfalso; omega
                    · refine zx_aloadN dL_acts_232 rfl rfl ?_
                      refine zx_iload dL_acts_233 rfl ?_
                      refine zy_cv [zi (D 12 0)] (fX9_isAside  hfl hz189 rfl hr189.2.2.2.2.2.1 (by first | exact hz189 _ _ | assumption | exact zr_b _ | exact zcmp_r _ _ | exact hzD _ _ | exact zr3 (tS_b hW _) | exact zr3 (lsc_b hW _ _) | exact zr3 (sc_b hW _ _) | exact rkP_zr hW _ | exact scA_zr hW _ _ | exact zr3 (cW_b hW) | exact zr3 (wS_b hW) | exact zr3 (wS_b hWn) | (unfold zr at *; omega)) (by first | assumption | omega)) dL_acts_235 (by decide) rfl cw_RL_128 okX9_isAside rfl (Nat.le_of_ble_eq_true rfl) ⟨Nat.le_of_ble_eq_true rfl, Nat.le_of_ble_eq_true rfl, Nat.le_of_ble_eq_true rfl, Nat.le_of_ble_eq_true rfl⟩ ?_
                      refine zx_if_ne (tgt := 267) (by first | exact hz189 _ _ | assumption | exact zr_b _ | exact zcmp_r _ _ | exact hzD _ _ | exact zr3 (tS_b hW _) | exact zr3 (lsc_b hW _ _) | exact zr3 (sc_b hW _ _) | exact rkP_zr hW _ | exact scA_zr hW _ _ | exact zr3 (cW_b hW) | exact zr3 (wS_b hW) | exact zr3 (wS_b hWn) | (unfold zr at *; omega)) dL_acts_238 (by decide) (fun h238 => ?_) (fun h238 => ?_)
                      · exfalso; omega
                      · refine zx_aloadN dL_acts_241 rfl rfl ?_
                        refine zx_iload dL_acts_242 rfl ?_
                        refine zy_cv [zi (D 12 0)] (fX9_kindOf  hfl hz189 rfl hr189.2.2.2.2.2.1 (by first | exact hz189 _ _ | assumption | exact zr_b _ | exact zcmp_r _ _ | exact hzD _ _ | exact zr3 (tS_b hW _) | exact zr3 (lsc_b hW _ _) | exact zr3 (sc_b hW _ _) | exact rkP_zr hW _ | exact scA_zr hW _ _ | exact zr3 (cW_b hW) | exact zr3 (wS_b hW) | exact zr3 (wS_b hWn) | (unfold zr at *; omega)) (by first | assumption | omega)) dL_acts_244 (by decide) rfl cw_RL_109 okX9_kindOf rfl (Nat.le_of_ble_eq_true rfl) ⟨Nat.le_of_ble_eq_true rfl, Nat.le_of_ble_eq_true rfl, Nat.le_of_ble_eq_true rfl, Nat.le_of_ble_eq_true rfl⟩ ?_
                        refine zx_iload dL_acts_247 rfl ?_
                        refine zx_icmp_ne (tgt := 267) (by first | exact hz189 _ _ | assumption | exact zr_b _ | exact zcmp_r _ _ | exact hzD _ _ | exact zr3 (tS_b hW _) | exact zr3 (lsc_b hW _ _) | exact zr3 (sc_b hW _ _) | exact rkP_zr hW _ | exact scA_zr hW _ _ | exact zr3 (cW_b hW) | exact zr3 (wS_b hW) | exact zr3 (wS_b hWn) | (unfold zr at *; omega)) (by first | exact hz189 _ _ | assumption | exact zr_b _ | exact zcmp_r _ _ | exact hzD _ _ | exact zr3 (tS_b hW _) | exact zr3 (lsc_b hW _ _) | exact zr3 (sc_b hW _ _) | exact rkP_zr hW _ | exact scA_zr hW _ _ | exact zr3 (cW_b hW) | exact zr3 (wS_b hW) | exact zr3 (wS_b hWn) | (unfold zr at *; omega)) dL_acts_249 (by decide) (fun h249 => ?_) (fun h249 => ?_)
                        · exfalso; omega
                        · refine zx_aloadN dL_acts_252 rfl rfl ?_
                          refine zx_iload dL_acts_253 rfl ?_
                          refine zy_cv [zi (D 12 0)] (fX9_valueOf  hfl hz189 rfl hr189.2.2.2.2.2.1 (by first | exact hz189 _ _ | assumption | exact zr_b _ | exact zcmp_r _ _ | exact hzD _ _ | exact zr3 (tS_b hW _) | exact zr3 (lsc_b hW _ _) | exact zr3 (sc_b hW _ _) | exact rkP_zr hW _ | exact scA_zr hW _ _ | exact zr3 (cW_b hW) | exact zr3 (wS_b hW) | exact zr3 (wS_b hWn) | (unfold zr at *; omega)) (by first | assumption | omega)) dL_acts_255 (by decide) rfl cw_RL_114 okX9_valueOf rfl (Nat.le_of_ble_eq_true rfl) ⟨Nat.le_of_ble_eq_true rfl, Nat.le_of_ble_eq_true rfl, Nat.le_of_ble_eq_true rfl, Nat.le_of_ble_eq_true rfl⟩ ?_
                          refine zx_iload dL_acts_258 rfl ?_
                          refine zx_icmp_ne (tgt := 267) (by first | exact hz189 _ _ | assumption | exact zr_b _ | exact zcmp_r _ _ | exact hzD _ _ | exact zr3 (tS_b hW _) | exact zr3 (lsc_b hW _ _) | exact zr3 (sc_b hW _ _) | exact rkP_zr hW _ | exact scA_zr hW _ _ | exact zr3 (cW_b hW) | exact zr3 (wS_b hW) | exact zr3 (wS_b hWn) | (unfold zr at *; omega)) (by first | exact hz189 _ _ | assumption | exact zr_b _ | exact zcmp_r _ _ | exact hzD _ _ | exact zr3 (tS_b hW _) | exact zr3 (lsc_b hW _ _) | exact zr3 (sc_b hW _ _) | exact rkP_zr hW _ | exact scA_zr hW _ _ | exact zr3 (cW_b hW) | exact zr3 (wS_b hW) | exact zr3 (wS_b hWn) | (unfold zr at *; omega)) dL_acts_260 (by decide) (fun h260 => ?_) (fun h260 => ?_)
                          · exfalso; omega
                          · refine zx_iconst dL_acts_263 ?_
                            refine zx_goto (tgt := 268) dL_acts_264 (by decide) ?_
                            refine zx_iret rfl rfl dL_acts_268 ?_
                            rw [hQ]
                            refine ⟨congrArg (fun z : Int => (Sum.inl (some (zi z)) : Option zV ⊕ String)) ?_, ?_⟩
                            · first | rfl | assumption | omega
                            exact AP_e (aB_1 hu.2 (by omega)) (AP_d (zSame_rf _ _) hr189 (zSame_rf _ _) hz189)
                · refine zx_iload dL_acts_201 rfl ?_
                  refine zx_bipush dL_acts_203 rfl ?_
                  refine zx_icmp_ne (tgt := 212) (by first | exact hz189 _ _ | assumption | exact zr_b _ | exact zcmp_r _ _ | exact hzD _ _ | exact zr3 (tS_b hW _) | exact zr3 (lsc_b hW _ _) | exact zr3 (sc_b hW _ _) | exact rkP_zr hW _ | exact scA_zr hW _ _ | exact zr3 (cW_b hW) | exact zr3 (wS_b hW) | exact zr3 (wS_b hWn) | (unfold zr at *; omega)) (by first | exact hz189 _ _ | assumption | exact zr_b _ | exact zcmp_r _ _ | exact hzD _ _ | exact zr3 (tS_b hW _) | exact zr3 (lsc_b hW _ _) | exact zr3 (sc_b hW _ _) | exact rkP_zr hW _ | exact scA_zr hW _ _ | exact zr3 (cW_b hW) | exact zr3 (wS_b hW) | exact zr3 (wS_b hWn) | (unfold zr at *; omega)) dL_acts_205 (by decide) (fun h205 => ?_) (fun h205 => ?_)
                  · exfalso; omega
                  · refine zx_iconst dL_acts_208 ?_
                    refine zx_goto (tgt := 268) dL_acts_209 (by decide) ?_
                    refine zx_iret rfl rfl dL_acts_268 ?_
                    rw [hQ]
                    refine ⟨congrArg (fun z : Int => (Sum.inl (some (zi z)) : Option zV ⊕ String)) ?_, ?_⟩
                    · first | rfl | assumption | omega
                    exact AP_e (aB_1 hu.2 (by omega)) (AP_d (zSame_rf _ _) hr189 (zSame_rf _ _) hz189)
              · refine zy_csHR [zf 9 0, zi (y % 5), zi (1 + (x % 30)), zi (aV mk (y % 5) z), zi (1 + ((x + z) % 9))] (sL_does_addF  hfl hz hB hW (HN_j hN (zSame_rf _ _)) (HBA_j hA (zSame_rf _ _)) (by first | assumption | omega) (by first | assumption | omega) (by first | assumption | omega) (by first | assumption | omega)) dL_acts_189 cw_RL_231 okL_does rfl (Nat.le_of_ble_eq_true rfl) ⟨Nat.le_of_ble_eq_true rfl, Nat.le_of_ble_eq_true rfl, Nat.le_of_ble_eq_true rfl, Nat.le_of_ble_eq_true rfl⟩ (fun τ189 hr189 => ?_)
                have hz189 : zOK τ189 := hr189.1
                refine zy_istore [zf 9 0, zi mk, zi u, zi x, zi y, zi z, zi (D 12 0), zi 0, zi (y % 5), zi (aV mk (y % 5) z), zi (-103), zu, zu, zu] dL_acts_192 (Nat.le_of_ble_eq_true rfl) (Nat.le_of_ble_eq_true rfl) rfl rfl ?_
                refine zx_iload dL_acts_194 rfl ?_
                refine zx_bipush dL_acts_196 rfl ?_
                refine zx_icmp_ne (tgt := 216) (by first | exact hz189 _ _ | assumption | exact zr_b _ | exact zcmp_r _ _ | exact hzD _ _ | exact zr3 (tS_b hW _) | exact zr3 (lsc_b hW _ _) | exact zr3 (sc_b hW _ _) | exact rkP_zr hW _ | exact scA_zr hW _ _ | exact zr3 (cW_b hW) | exact zr3 (wS_b hW) | exact zr3 (wS_b hWn) | (unfold zr at *; omega)) (by first | exact hz189 _ _ | assumption | exact zr_b _ | exact zcmp_r _ _ | exact hzD _ _ | exact zr3 (tS_b hW _) | exact zr3 (lsc_b hW _ _) | exact zr3 (sc_b hW _ _) | exact rkP_zr hW _ | exact scA_zr hW _ _ | exact zr3 (cW_b hW) | exact zr3 (wS_b hW) | exact zr3 (wS_b hWn) | (unfold zr at *; omega)) dL_acts_198 (by decide) (fun h198 => ?_) (fun h198 => ?_)
                · exfalso; omega
                · refine zx_iload dL_acts_201 rfl ?_
                  refine zx_bipush dL_acts_203 rfl ?_
                  refine zx_icmp_ne (tgt := 212) (by first | exact hz189 _ _ | assumption | exact zr_b _ | exact zcmp_r _ _ | exact hzD _ _ | exact zr3 (tS_b hW _) | exact zr3 (lsc_b hW _ _) | exact zr3 (sc_b hW _ _) | exact rkP_zr hW _ | exact scA_zr hW _ _ | exact zr3 (cW_b hW) | exact zr3 (wS_b hW) | exact zr3 (wS_b hWn) | (unfold zr at *; omega)) (by first | exact hz189 _ _ | assumption | exact zr_b _ | exact zcmp_r _ _ | exact hzD _ _ | exact zr3 (tS_b hW _) | exact zr3 (lsc_b hW _ _) | exact zr3 (sc_b hW _ _) | exact rkP_zr hW _ | exact scA_zr hW _ _ | exact zr3 (cW_b hW) | exact zr3 (wS_b hW) | exact zr3 (wS_b hWn) | (unfold zr at *; omega)) dL_acts_205 (by decide) (fun h205 => ?_) (fun h205 => ?_)
                  · exact absurd h205 (by decide)
                  · refine zx_iconst dL_acts_208 ?_
                    refine zx_goto (tgt := 268) dL_acts_209 (by decide) ?_
                    refine zx_iret rfl rfl dL_acts_268 ?_
                    rw [hQ]
                    refine ⟨congrArg (fun z : Int => (Sum.inl (some (zi z)) : Option zV ⊕ String)) ?_, ?_⟩
                    · first | rfl | assumption | omega
                    exact AP_e (aB_0 hu.2 (by omega)) (AP_f hW (zSame_rf _ _) hr189 (zSame_rf _ _) hz189 rfl)
          · refine zx_iload dL_acts_125 rfl ?_
            refine zx_iconst dL_acts_127 ?_
            refine zx_irem (by omega) (by omega) (by omega) (by omega) dL_acts_128 ?_
            refine zy_top (b := aV mk (y % 5) z) ((by unfold aV; rw [if_neg h109, if_pos h122])) ?_
            refine zx_goto (tgt := 167) dL_acts_129 (by decide) ?_
            refine zy_istore [zf 9 0, zi mk, zi u, zi x, zi y, zi z, zi (D 12 0), zi 0, zi (y % 5), zi (aV mk (y % 5) z), zu, zu, zu, zu] dL_acts_167 (Nat.le_of_ble_eq_true rfl) (Nat.le_of_ble_eq_true rfl) rfl rfl ?_
            refine zx_aloadN dL_acts_169 rfl rfl ?_
            refine zx_iload dL_acts_170 rfl ?_
            refine zx_iconst dL_acts_172 ?_
            refine zx_iloadN dL_acts_173 rfl rfl ?_
            refine zx_bipush dL_acts_174 rfl ?_
            refine zx_irem (by omega) (by omega) (by omega) (by omega) dL_acts_176 ?_
            refine zx_iadd dL_acts_177 ?_
            refine zx_iload dL_acts_178 rfl ?_
            refine zx_iconst dL_acts_180 ?_
            refine zx_iloadN dL_acts_181 rfl rfl ?_
            refine zx_iload dL_acts_182 rfl ?_
            refine zx_iadd dL_acts_184 ?_
            refine zx_bipush dL_acts_185 rfl ?_
            refine zx_irem (by omega) (by omega) (by omega) (by omega) dL_acts_187 ?_
            refine zx_iadd dL_acts_188 ?_
            by_cases hb189 : D 12 0 < 40
            · refine zy_csHR [zf 9 0, zi (y % 5), zi (1 + (x % 30)), zi (aV mk (y % 5) z), zi (1 + ((x + z) % 9))] (sL_does_add  hfl hz hB hW (HN_j hN (zSame_rf _ _)) (HBA_j hA (zSame_rf _ _)) (by first | assumption | omega) (by first | assumption | omega) (by first | assumption | omega) (by first | assumption | omega)) dL_acts_189 cw_RL_231 okL_does rfl (Nat.le_of_ble_eq_true rfl) ⟨Nat.le_of_ble_eq_true rfl, Nat.le_of_ble_eq_true rfl, Nat.le_of_ble_eq_true rfl, Nat.le_of_ble_eq_true rfl⟩ (fun τ189 hr189 => ?_)
              have hz189 : zOK τ189 := hr189.1
              have hl := hr189.2.2.2.2.2.2
              have hWn := hr189.2.2.2.2.2.1
              have hzDn := hzDof (rfl : bK τ189 = bK τ189) hz189
              obtain ⟨e12, e14, e15, e17, e18⟩ := ad_post hl (by omega)
              refine zy_istore [zf 9 0, zi mk, zi u, zi x, zi y, zi z, zi (D 12 0), zi 0, zi (y % 5), zi (aV mk (y % 5) z), zi (D 12 0), zu, zu, zu] dL_acts_192 (Nat.le_of_ble_eq_true rfl) (Nat.le_of_ble_eq_true rfl) rfl rfl ?_
              refine zx_iload dL_acts_194 rfl ?_
              refine zx_bipush dL_acts_196 rfl ?_
              refine zx_icmp_ne (tgt := 216) (by first | exact hz189 _ _ | assumption | exact zr_b _ | exact zcmp_r _ _ | exact hzD _ _ | exact zr3 (tS_b hW _) | exact zr3 (lsc_b hW _ _) | exact zr3 (sc_b hW _ _) | exact rkP_zr hW _ | exact scA_zr hW _ _ | exact zr3 (cW_b hW) | exact zr3 (wS_b hW) | exact zr3 (wS_b hWn) | (unfold zr at *; omega)) (by first | exact hz189 _ _ | assumption | exact zr_b _ | exact zcmp_r _ _ | exact hzD _ _ | exact zr3 (tS_b hW _) | exact zr3 (lsc_b hW _ _) | exact zr3 (sc_b hW _ _) | exact rkP_zr hW _ | exact scA_zr hW _ _ | exact zr3 (cW_b hW) | exact zr3 (wS_b hW) | exact zr3 (wS_b hWn) | (unfold zr at *; omega)) dL_acts_198 (by decide) (fun h198 => ?_) (fun h198 => ?_)
              · refine zx_iload dL_acts_216 rfl ?_
                refine zx_iload dL_acts_218 rfl ?_
                refine zx_icmp_ne (tgt := 267) (by first | exact hz189 _ _ | assumption | exact zr_b _ | exact zcmp_r _ _ | exact hzD _ _ | exact zr3 (tS_b hW _) | exact zr3 (lsc_b hW _ _) | exact zr3 (sc_b hW _ _) | exact rkP_zr hW _ | exact scA_zr hW _ _ | exact zr3 (cW_b hW) | exact zr3 (wS_b hW) | exact zr3 (wS_b hWn) | (unfold zr at *; omega)) (by first | exact hz189 _ _ | assumption | exact zr_b _ | exact zcmp_r _ _ | exact hzD _ _ | exact zr3 (tS_b hW _) | exact zr3 (lsc_b hW _ _) | exact zr3 (sc_b hW _ _) | exact rkP_zr hW _ | exact scA_zr hW _ _ | exact zr3 (cW_b hW) | exact zr3 (wS_b hW) | exact zr3 (wS_b hWn) | (unfold zr at *; omega)) dL_acts_220 (by decide) (fun h220 => ?_) (fun h220 => ?_)
                · exfalso; omega
                · refine zx_aloadN dL_acts_223 rfl rfl ?_
                  refine zx_iload dL_acts_224 rfl ?_
                  refine zy_cv [zi (D 12 0)] (fX9_isRead  hfl hz189 rfl hr189.2.2.2.2.2.1 (by first | exact hz189 _ _ | assumption | exact zr_b _ | exact zcmp_r _ _ | exact hzD _ _ | exact zr3 (tS_b hW _) | exact zr3 (lsc_b hW _ _) | exact zr3 (sc_b hW _ _) | exact rkP_zr hW _ | exact scA_zr hW _ _ | exact zr3 (cW_b hW) | exact zr3 (wS_b hW) | exact zr3 (wS_b hWn) | (unfold zr at *; omega)) (by first | assumption | omega)) dL_acts_226 (by decide) rfl cw_RL_122 okX9_isRead rfl (Nat.le_of_ble_eq_true rfl) ⟨Nat.le_of_ble_eq_true rfl, Nat.le_of_ble_eq_true rfl, Nat.le_of_ble_eq_true rfl, Nat.le_of_ble_eq_true rfl⟩ ?_
                  refine zx_if_ne (tgt := 267) (by first | exact hz189 _ _ | assumption | exact zr_b _ | exact zcmp_r _ _ | exact hzD _ _ | exact zr3 (tS_b hW _) | exact zr3 (lsc_b hW _ _) | exact zr3 (sc_b hW _ _) | exact rkP_zr hW _ | exact scA_zr hW _ _ | exact zr3 (cW_b hW) | exact zr3 (wS_b hW) | exact zr3 (wS_b hWn) | (unfold zr at *; omega)) dL_acts_229 (by decide) (fun h229 => ?_) (fun h229 => ?_)
                  · exfalso; omega
                  · refine zx_aloadN dL_acts_232 rfl rfl ?_
                    refine zx_iload dL_acts_233 rfl ?_
                    refine zy_cv [zi (D 12 0)] (fX9_isAside  hfl hz189 rfl hr189.2.2.2.2.2.1 (by first | exact hz189 _ _ | assumption | exact zr_b _ | exact zcmp_r _ _ | exact hzD _ _ | exact zr3 (tS_b hW _) | exact zr3 (lsc_b hW _ _) | exact zr3 (sc_b hW _ _) | exact rkP_zr hW _ | exact scA_zr hW _ _ | exact zr3 (cW_b hW) | exact zr3 (wS_b hW) | exact zr3 (wS_b hWn) | (unfold zr at *; omega)) (by first | assumption | omega)) dL_acts_235 (by decide) rfl cw_RL_128 okX9_isAside rfl (Nat.le_of_ble_eq_true rfl) ⟨Nat.le_of_ble_eq_true rfl, Nat.le_of_ble_eq_true rfl, Nat.le_of_ble_eq_true rfl, Nat.le_of_ble_eq_true rfl⟩ ?_
                    refine zx_if_ne (tgt := 267) (by first | exact hz189 _ _ | assumption | exact zr_b _ | exact zcmp_r _ _ | exact hzD _ _ | exact zr3 (tS_b hW _) | exact zr3 (lsc_b hW _ _) | exact zr3 (sc_b hW _ _) | exact rkP_zr hW _ | exact scA_zr hW _ _ | exact zr3 (cW_b hW) | exact zr3 (wS_b hW) | exact zr3 (wS_b hWn) | (unfold zr at *; omega)) dL_acts_238 (by decide) (fun h238 => ?_) (fun h238 => ?_)
                    · exfalso; omega
                    · refine zx_aloadN dL_acts_241 rfl rfl ?_
                      refine zx_iload dL_acts_242 rfl ?_
                      refine zy_cv [zi (D 12 0)] (fX9_kindOf  hfl hz189 rfl hr189.2.2.2.2.2.1 (by first | exact hz189 _ _ | assumption | exact zr_b _ | exact zcmp_r _ _ | exact hzD _ _ | exact zr3 (tS_b hW _) | exact zr3 (lsc_b hW _ _) | exact zr3 (sc_b hW _ _) | exact rkP_zr hW _ | exact scA_zr hW _ _ | exact zr3 (cW_b hW) | exact zr3 (wS_b hW) | exact zr3 (wS_b hWn) | (unfold zr at *; omega)) (by first | assumption | omega)) dL_acts_244 (by decide) rfl cw_RL_109 okX9_kindOf rfl (Nat.le_of_ble_eq_true rfl) ⟨Nat.le_of_ble_eq_true rfl, Nat.le_of_ble_eq_true rfl, Nat.le_of_ble_eq_true rfl, Nat.le_of_ble_eq_true rfl⟩ ?_
                      refine zx_iload dL_acts_247 rfl ?_
                      refine zx_icmp_ne (tgt := 267) (by first | exact hz189 _ _ | assumption | exact zr_b _ | exact zcmp_r _ _ | exact hzD _ _ | exact zr3 (tS_b hW _) | exact zr3 (lsc_b hW _ _) | exact zr3 (sc_b hW _ _) | exact rkP_zr hW _ | exact scA_zr hW _ _ | exact zr3 (cW_b hW) | exact zr3 (wS_b hW) | exact zr3 (wS_b hWn) | (unfold zr at *; omega)) (by first | exact hz189 _ _ | assumption | exact zr_b _ | exact zcmp_r _ _ | exact hzD _ _ | exact zr3 (tS_b hW _) | exact zr3 (lsc_b hW _ _) | exact zr3 (sc_b hW _ _) | exact rkP_zr hW _ | exact scA_zr hW _ _ | exact zr3 (cW_b hW) | exact zr3 (wS_b hW) | exact zr3 (wS_b hWn) | (unfold zr at *; omega)) dL_acts_249 (by decide) (fun h249 => ?_) (fun h249 => ?_)
                      · exfalso; omega
                      · refine zx_aloadN dL_acts_252 rfl rfl ?_
                        refine zx_iload dL_acts_253 rfl ?_
                        refine zy_cv [zi (D 12 0)] (fX9_valueOf  hfl hz189 rfl hr189.2.2.2.2.2.1 (by first | exact hz189 _ _ | assumption | exact zr_b _ | exact zcmp_r _ _ | exact hzD _ _ | exact zr3 (tS_b hW _) | exact zr3 (lsc_b hW _ _) | exact zr3 (sc_b hW _ _) | exact rkP_zr hW _ | exact scA_zr hW _ _ | exact zr3 (cW_b hW) | exact zr3 (wS_b hW) | exact zr3 (wS_b hWn) | (unfold zr at *; omega)) (by first | assumption | omega)) dL_acts_255 (by decide) rfl cw_RL_114 okX9_valueOf rfl (Nat.le_of_ble_eq_true rfl) ⟨Nat.le_of_ble_eq_true rfl, Nat.le_of_ble_eq_true rfl, Nat.le_of_ble_eq_true rfl, Nat.le_of_ble_eq_true rfl⟩ ?_
                        refine zx_iload dL_acts_258 rfl ?_
                        refine zx_icmp_ne (tgt := 267) (by first | exact hz189 _ _ | assumption | exact zr_b _ | exact zcmp_r _ _ | exact hzD _ _ | exact zr3 (tS_b hW _) | exact zr3 (lsc_b hW _ _) | exact zr3 (sc_b hW _ _) | exact rkP_zr hW _ | exact scA_zr hW _ _ | exact zr3 (cW_b hW) | exact zr3 (wS_b hW) | exact zr3 (wS_b hWn) | (unfold zr at *; omega)) (by first | exact hz189 _ _ | assumption | exact zr_b _ | exact zcmp_r _ _ | exact hzD _ _ | exact zr3 (tS_b hW _) | exact zr3 (lsc_b hW _ _) | exact zr3 (sc_b hW _ _) | exact rkP_zr hW _ | exact scA_zr hW _ _ | exact zr3 (cW_b hW) | exact zr3 (wS_b hW) | exact zr3 (wS_b hWn) | (unfold zr at *; omega)) dL_acts_260 (by decide) (fun h260 => ?_) (fun h260 => ?_)
                        · exfalso; omega
                        · refine zx_iconst dL_acts_263 ?_
                          refine zx_goto (tgt := 268) dL_acts_264 (by decide) ?_
                          refine zx_iret rfl rfl dL_acts_268 ?_
                          rw [hQ]
                          refine ⟨congrArg (fun z : Int => (Sum.inl (some (zi z)) : Option zV ⊕ String)) ?_, ?_⟩
                          · first | rfl | assumption | omega
                          exact AP_e (aB_1 hu.2 (by omega)) (AP_d (zSame_rf _ _) hr189 (zSame_rf _ _) hz189)
              · refine zx_iload dL_acts_201 rfl ?_
                refine zx_bipush dL_acts_203 rfl ?_
                refine zx_icmp_ne (tgt := 212) (by first | exact hz189 _ _ | assumption | exact zr_b _ | exact zcmp_r _ _ | exact hzD _ _ | exact zr3 (tS_b hW _) | exact zr3 (lsc_b hW _ _) | exact zr3 (sc_b hW _ _) | exact rkP_zr hW _ | exact scA_zr hW _ _ | exact zr3 (cW_b hW) | exact zr3 (wS_b hW) | exact zr3 (wS_b hWn) | (unfold zr at *; omega)) (by first | exact hz189 _ _ | assumption | exact zr_b _ | exact zcmp_r _ _ | exact hzD _ _ | exact zr3 (tS_b hW _) | exact zr3 (lsc_b hW _ _) | exact zr3 (sc_b hW _ _) | exact rkP_zr hW _ | exact scA_zr hW _ _ | exact zr3 (cW_b hW) | exact zr3 (wS_b hW) | exact zr3 (wS_b hWn) | (unfold zr at *; omega)) dL_acts_205 (by decide) (fun h205 => ?_) (fun h205 => ?_)
                · exfalso; omega
                · refine zx_iconst dL_acts_208 ?_
                  refine zx_goto (tgt := 268) dL_acts_209 (by decide) ?_
                  refine zx_iret rfl rfl dL_acts_268 ?_
                  rw [hQ]
                  refine ⟨congrArg (fun z : Int => (Sum.inl (some (zi z)) : Option zV ⊕ String)) ?_, ?_⟩
                  · first | rfl | assumption | omega
                  exact AP_e (aB_1 hu.2 (by omega)) (AP_d (zSame_rf _ _) hr189 (zSame_rf _ _) hz189)
            · refine zy_csHR [zf 9 0, zi (y % 5), zi (1 + (x % 30)), zi (aV mk (y % 5) z), zi (1 + ((x + z) % 9))] (sL_does_addF  hfl hz hB hW (HN_j hN (zSame_rf _ _)) (HBA_j hA (zSame_rf _ _)) (by first | assumption | omega) (by first | assumption | omega) (by first | assumption | omega) (by first | assumption | omega)) dL_acts_189 cw_RL_231 okL_does rfl (Nat.le_of_ble_eq_true rfl) ⟨Nat.le_of_ble_eq_true rfl, Nat.le_of_ble_eq_true rfl, Nat.le_of_ble_eq_true rfl, Nat.le_of_ble_eq_true rfl⟩ (fun τ189 hr189 => ?_)
              have hz189 : zOK τ189 := hr189.1
              refine zy_istore [zf 9 0, zi mk, zi u, zi x, zi y, zi z, zi (D 12 0), zi 0, zi (y % 5), zi (aV mk (y % 5) z), zi (-103), zu, zu, zu] dL_acts_192 (Nat.le_of_ble_eq_true rfl) (Nat.le_of_ble_eq_true rfl) rfl rfl ?_
              refine zx_iload dL_acts_194 rfl ?_
              refine zx_bipush dL_acts_196 rfl ?_
              refine zx_icmp_ne (tgt := 216) (by first | exact hz189 _ _ | assumption | exact zr_b _ | exact zcmp_r _ _ | exact hzD _ _ | exact zr3 (tS_b hW _) | exact zr3 (lsc_b hW _ _) | exact zr3 (sc_b hW _ _) | exact rkP_zr hW _ | exact scA_zr hW _ _ | exact zr3 (cW_b hW) | exact zr3 (wS_b hW) | exact zr3 (wS_b hWn) | (unfold zr at *; omega)) (by first | exact hz189 _ _ | assumption | exact zr_b _ | exact zcmp_r _ _ | exact hzD _ _ | exact zr3 (tS_b hW _) | exact zr3 (lsc_b hW _ _) | exact zr3 (sc_b hW _ _) | exact rkP_zr hW _ | exact scA_zr hW _ _ | exact zr3 (cW_b hW) | exact zr3 (wS_b hW) | exact zr3 (wS_b hWn) | (unfold zr at *; omega)) dL_acts_198 (by decide) (fun h198 => ?_) (fun h198 => ?_)
              · exfalso; omega
              · refine zx_iload dL_acts_201 rfl ?_
                refine zx_bipush dL_acts_203 rfl ?_
                refine zx_icmp_ne (tgt := 212) (by first | exact hz189 _ _ | assumption | exact zr_b _ | exact zcmp_r _ _ | exact hzD _ _ | exact zr3 (tS_b hW _) | exact zr3 (lsc_b hW _ _) | exact zr3 (sc_b hW _ _) | exact rkP_zr hW _ | exact scA_zr hW _ _ | exact zr3 (cW_b hW) | exact zr3 (wS_b hW) | exact zr3 (wS_b hWn) | (unfold zr at *; omega)) (by first | exact hz189 _ _ | assumption | exact zr_b _ | exact zcmp_r _ _ | exact hzD _ _ | exact zr3 (tS_b hW _) | exact zr3 (lsc_b hW _ _) | exact zr3 (sc_b hW _ _) | exact rkP_zr hW _ | exact scA_zr hW _ _ | exact zr3 (cW_b hW) | exact zr3 (wS_b hW) | exact zr3 (wS_b hWn) | (unfold zr at *; omega)) dL_acts_205 (by decide) (fun h205 => ?_) (fun h205 => ?_)
                · exact absurd h205 (by decide)
                · refine zx_iconst dL_acts_208 ?_
                  refine zx_goto (tgt := 268) dL_acts_209 (by decide) ?_
                  refine zx_iret rfl rfl dL_acts_268 ?_
                  rw [hQ]
                  refine ⟨congrArg (fun z : Int => (Sum.inl (some (zi z)) : Option zV ⊕ String)) ?_, ?_⟩
                  · first | rfl | assumption | omega
                  exact AP_e (aB_0 hu.2 (by omega)) (AP_f hW (zSame_rf _ _) hr189 (zSame_rf _ _) hz189 rfl)
        · refine zx_iload dL_acts_112 rfl ?_
          refine zx_iconst dL_acts_114 ?_
          refine zx_irem (by omega) (by omega) (by omega) (by omega) dL_acts_115 ?_
          refine zy_top (b := aV mk (y % 5) z) ((by unfold aV; rw [if_pos h109])) ?_
          refine zx_goto (tgt := 167) dL_acts_116 (by decide) ?_
          refine zy_istore [zf 9 0, zi mk, zi u, zi x, zi y, zi z, zi (D 12 0), zi 0, zi (y % 5), zi (aV mk (y % 5) z), zu, zu, zu, zu] dL_acts_167 (Nat.le_of_ble_eq_true rfl) (Nat.le_of_ble_eq_true rfl) rfl rfl ?_
          refine zx_aloadN dL_acts_169 rfl rfl ?_
          refine zx_iload dL_acts_170 rfl ?_
          refine zx_iconst dL_acts_172 ?_
          refine zx_iloadN dL_acts_173 rfl rfl ?_
          refine zx_bipush dL_acts_174 rfl ?_
          refine zx_irem (by omega) (by omega) (by omega) (by omega) dL_acts_176 ?_
          refine zx_iadd dL_acts_177 ?_
          refine zx_iload dL_acts_178 rfl ?_
          refine zx_iconst dL_acts_180 ?_
          refine zx_iloadN dL_acts_181 rfl rfl ?_
          refine zx_iload dL_acts_182 rfl ?_
          refine zx_iadd dL_acts_184 ?_
          refine zx_bipush dL_acts_185 rfl ?_
          refine zx_irem (by omega) (by omega) (by omega) (by omega) dL_acts_187 ?_
          refine zx_iadd dL_acts_188 ?_
          by_cases hb189 : D 12 0 < 40
          · refine zy_csHR [zf 9 0, zi (y % 5), zi (1 + (x % 30)), zi (aV mk (y % 5) z), zi (1 + ((x + z) % 9))] (sL_does_add  hfl hz hB hW (HN_j hN (zSame_rf _ _)) (HBA_j hA (zSame_rf _ _)) (by first | assumption | omega) (by first | assumption | omega) (by first | assumption | omega) (by first | assumption | omega)) dL_acts_189 cw_RL_231 okL_does rfl (Nat.le_of_ble_eq_true rfl) ⟨Nat.le_of_ble_eq_true rfl, Nat.le_of_ble_eq_true rfl, Nat.le_of_ble_eq_true rfl, Nat.le_of_ble_eq_true rfl⟩ (fun τ189 hr189 => ?_)
            have hz189 : zOK τ189 := hr189.1
            have hl := hr189.2.2.2.2.2.2
            have hWn := hr189.2.2.2.2.2.1
            have hzDn := hzDof (rfl : bK τ189 = bK τ189) hz189
            obtain ⟨e12, e14, e15, e17, e18⟩ := ad_post hl (by omega)
            refine zy_istore [zf 9 0, zi mk, zi u, zi x, zi y, zi z, zi (D 12 0), zi 0, zi (y % 5), zi (aV mk (y % 5) z), zi (D 12 0), zu, zu, zu] dL_acts_192 (Nat.le_of_ble_eq_true rfl) (Nat.le_of_ble_eq_true rfl) rfl rfl ?_
            refine zx_iload dL_acts_194 rfl ?_
            refine zx_bipush dL_acts_196 rfl ?_
            refine zx_icmp_ne (tgt := 216) (by first | exact hz189 _ _ | assumption | exact zr_b _ | exact zcmp_r _ _ | exact hzD _ _ | exact zr3 (tS_b hW _) | exact zr3 (lsc_b hW _ _) | exact zr3 (sc_b hW _ _) | exact rkP_zr hW _ | exact scA_zr hW _ _ | exact zr3 (cW_b hW) | exact zr3 (wS_b hW) | exact zr3 (wS_b hWn) | (unfold zr at *; omega)) (by first | exact hz189 _ _ | assumption | exact zr_b _ | exact zcmp_r _ _ | exact hzD _ _ | exact zr3 (tS_b hW _) | exact zr3 (lsc_b hW _ _) | exact zr3 (sc_b hW _ _) | exact rkP_zr hW _ | exact scA_zr hW _ _ | exact zr3 (cW_b hW) | exact zr3 (wS_b hW) | exact zr3 (wS_b hWn) | (unfold zr at *; omega)) dL_acts_198 (by decide) (fun h198 => ?_) (fun h198 => ?_)
            · refine zx_iload dL_acts_216 rfl ?_
              refine zx_iload dL_acts_218 rfl ?_
              refine zx_icmp_ne (tgt := 267) (by first | exact hz189 _ _ | assumption | exact zr_b _ | exact zcmp_r _ _ | exact hzD _ _ | exact zr3 (tS_b hW _) | exact zr3 (lsc_b hW _ _) | exact zr3 (sc_b hW _ _) | exact rkP_zr hW _ | exact scA_zr hW _ _ | exact zr3 (cW_b hW) | exact zr3 (wS_b hW) | exact zr3 (wS_b hWn) | (unfold zr at *; omega)) (by first | exact hz189 _ _ | assumption | exact zr_b _ | exact zcmp_r _ _ | exact hzD _ _ | exact zr3 (tS_b hW _) | exact zr3 (lsc_b hW _ _) | exact zr3 (sc_b hW _ _) | exact rkP_zr hW _ | exact scA_zr hW _ _ | exact zr3 (cW_b hW) | exact zr3 (wS_b hW) | exact zr3 (wS_b hWn) | (unfold zr at *; omega)) dL_acts_220 (by decide) (fun h220 => ?_) (fun h220 => ?_)
              · exfalso; omega
              · refine zx_aloadN dL_acts_223 rfl rfl ?_
                refine zx_iload dL_acts_224 rfl ?_
                refine zy_cv [zi (D 12 0)] (fX9_isRead  hfl hz189 rfl hr189.2.2.2.2.2.1 (by first | exact hz189 _ _ | assumption | exact zr_b _ | exact zcmp_r _ _ | exact hzD _ _ | exact zr3 (tS_b hW _) | exact zr3 (lsc_b hW _ _) | exact zr3 (sc_b hW _ _) | exact rkP_zr hW _ | exact scA_zr hW _ _ | exact zr3 (cW_b hW) | exact zr3 (wS_b hW) | exact zr3 (wS_b hWn) | (unfold zr at *; omega)) (by first | assumption | omega)) dL_acts_226 (by decide) rfl cw_RL_122 okX9_isRead rfl (Nat.le_of_ble_eq_true rfl) ⟨Nat.le_of_ble_eq_true rfl, Nat.le_of_ble_eq_true rfl, Nat.le_of_ble_eq_true rfl, Nat.le_of_ble_eq_true rfl⟩ ?_
                refine zx_if_ne (tgt := 267) (by first | exact hz189 _ _ | assumption | exact zr_b _ | exact zcmp_r _ _ | exact hzD _ _ | exact zr3 (tS_b hW _) | exact zr3 (lsc_b hW _ _) | exact zr3 (sc_b hW _ _) | exact rkP_zr hW _ | exact scA_zr hW _ _ | exact zr3 (cW_b hW) | exact zr3 (wS_b hW) | exact zr3 (wS_b hWn) | (unfold zr at *; omega)) dL_acts_229 (by decide) (fun h229 => ?_) (fun h229 => ?_)
                · exfalso; omega
                · refine zx_aloadN dL_acts_232 rfl rfl ?_
                  refine zx_iload dL_acts_233 rfl ?_
                  refine zy_cv [zi (D 12 0)] (fX9_isAside  hfl hz189 rfl hr189.2.2.2.2.2.1 (by first | exact hz189 _ _ | assumption | exact zr_b _ | exact zcmp_r _ _ | exact hzD _ _ | exact zr3 (tS_b hW _) | exact zr3 (lsc_b hW _ _) | exact zr3 (sc_b hW _ _) | exact rkP_zr hW _ | exact scA_zr hW _ _ | exact zr3 (cW_b hW) | exact zr3 (wS_b hW) | exact zr3 (wS_b hWn) | (unfold zr at *; omega)) (by first | assumption | omega)) dL_acts_235 (by decide) rfl cw_RL_128 okX9_isAside rfl (Nat.le_of_ble_eq_true rfl) ⟨Nat.le_of_ble_eq_true rfl, Nat.le_of_ble_eq_true rfl, Nat.le_of_ble_eq_true rfl, Nat.le_of_ble_eq_true rfl⟩ ?_
                  refine zx_if_ne (tgt := 267) (by first | exact hz189 _ _ | assumption | exact zr_b _ | exact zcmp_r _ _ | exact hzD _ _ | exact zr3 (tS_b hW _) | exact zr3 (lsc_b hW _ _) | exact zr3 (sc_b hW _ _) | exact rkP_zr hW _ | exact scA_zr hW _ _ | exact zr3 (cW_b hW) | exact zr3 (wS_b hW) | exact zr3 (wS_b hWn) | (unfold zr at *; omega)) dL_acts_238 (by decide) (fun h238 => ?_) (fun h238 => ?_)
                  · exfalso; omega
                  · refine zx_aloadN dL_acts_241 rfl rfl ?_
                    refine zx_iload dL_acts_242 rfl ?_
                    refine zy_cv [zi (D 12 0)] (fX9_kindOf  hfl hz189 rfl hr189.2.2.2.2.2.1 (by first | exact hz189 _ _ | assumption | exact zr_b _ | exact zcmp_r _ _ | exact hzD _ _ | exact zr3 (tS_b hW _) | exact zr3 (lsc_b hW _ _) | exact zr3 (sc_b hW _ _) | exact rkP_zr hW _ | exact scA_zr hW _ _ | exact zr3 (cW_b hW) | exact zr3 (wS_b hW) | exact zr3 (wS_b hWn) | (unfold zr at *; omega)) (by first | assumption | omega)) dL_acts_244 (by decide) rfl cw_RL_109 okX9_kindOf rfl (Nat.le_of_ble_eq_true rfl) ⟨Nat.le_of_ble_eq_true rfl, Nat.le_of_ble_eq_true rfl, Nat.le_of_ble_eq_true rfl, Nat.le_of_ble_eq_true rfl⟩ ?_
                    refine zx_iload dL_acts_247 rfl ?_
                    refine zx_icmp_ne (tgt := 267) (by first | exact hz189 _ _ | assumption | exact zr_b _ | exact zcmp_r _ _ | exact hzD _ _ | exact zr3 (tS_b hW _) | exact zr3 (lsc_b hW _ _) | exact zr3 (sc_b hW _ _) | exact rkP_zr hW _ | exact scA_zr hW _ _ | exact zr3 (cW_b hW) | exact zr3 (wS_b hW) | exact zr3 (wS_b hWn) | (unfold zr at *; omega)) (by first | exact hz189 _ _ | assumption | exact zr_b _ | exact zcmp_r _ _ | exact hzD _ _ | exact zr3 (tS_b hW _) | exact zr3 (lsc_b hW _ _) | exact zr3 (sc_b hW _ _) | exact rkP_zr hW _ | exact scA_zr hW _ _ | exact zr3 (cW_b hW) | exact zr3 (wS_b hW) | exact zr3 (wS_b hWn) | (unfold zr at *; omega)) dL_acts_249 (by decide) (fun h249 => ?_) (fun h249 => ?_)
                    · exfalso; omega
                    · refine zx_aloadN dL_acts_252 rfl rfl ?_
                      refine zx_iload dL_acts_253 rfl ?_
                      refine zy_cv [zi (D 12 0)] (fX9_valueOf  hfl hz189 rfl hr189.2.2.2.2.2.1 (by first | exact hz189 _ _ | assumption | exact zr_b _ | exact zcmp_r _ _ | exact hzD _ _ | exact zr3 (tS_b hW _) | exact zr3 (lsc_b hW _ _) | exact zr3 (sc_b hW _ _) | exact rkP_zr hW _ | exact scA_zr hW _ _ | exact zr3 (cW_b hW) | exact zr3 (wS_b hW) | exact zr3 (wS_b hWn) | (unfold zr at *; omega)) (by first | assumption | omega)) dL_acts_255 (by decide) rfl cw_RL_114 okX9_valueOf rfl (Nat.le_of_ble_eq_true rfl) ⟨Nat.le_of_ble_eq_true rfl, Nat.le_of_ble_eq_true rfl, Nat.le_of_ble_eq_true rfl, Nat.le_of_ble_eq_true rfl⟩ ?_
                      refine zx_iload dL_acts_258 rfl ?_
                      refine zx_icmp_ne (tgt := 267) (by first | exact hz189 _ _ | assumption | exact zr_b _ | exact zcmp_r _ _ | exact hzD _ _ | exact zr3 (tS_b hW _) | exact zr3 (lsc_b hW _ _) | exact zr3 (sc_b hW _ _) | exact rkP_zr hW _ | exact scA_zr hW _ _ | exact zr3 (cW_b hW) | exact zr3 (wS_b hW) | exact zr3 (wS_b hWn) | (unfold zr at *; omega)) (by first | exact hz189 _ _ | assumption | exact zr_b _ | exact zcmp_r _ _ | exact hzD _ _ | exact zr3 (tS_b hW _) | exact zr3 (lsc_b hW _ _) | exact zr3 (sc_b hW _ _) | exact rkP_zr hW _ | exact scA_zr hW _ _ | exact zr3 (cW_b hW) | exact zr3 (wS_b hW) | exact zr3 (wS_b hWn) | (unfold zr at *; omega)) dL_acts_260 (by decide) (fun h260 => ?_) (fun h260 => ?_)
                      · exfalso; omega
                      · refine zx_iconst dL_acts_263 ?_
                        refine zx_goto (tgt := 268) dL_acts_264 (by decide) ?_
                        refine zx_iret rfl rfl dL_acts_268 ?_
                        rw [hQ]
                        refine ⟨congrArg (fun z : Int => (Sum.inl (some (zi z)) : Option zV ⊕ String)) ?_, ?_⟩
                        · first | rfl | assumption | omega
                        exact AP_e (aB_1 hu.2 (by omega)) (AP_d (zSame_rf _ _) hr189 (zSame_rf _ _) hz189)
            · refine zx_iload dL_acts_201 rfl ?_
              refine zx_bipush dL_acts_203 rfl ?_
              refine zx_icmp_ne (tgt := 212) (by first | exact hz189 _ _ | assumption | exact zr_b _ | exact zcmp_r _ _ | exact hzD _ _ | exact zr3 (tS_b hW _) | exact zr3 (lsc_b hW _ _) | exact zr3 (sc_b hW _ _) | exact rkP_zr hW _ | exact scA_zr hW _ _ | exact zr3 (cW_b hW) | exact zr3 (wS_b hW) | exact zr3 (wS_b hWn) | (unfold zr at *; omega)) (by first | exact hz189 _ _ | assumption | exact zr_b _ | exact zcmp_r _ _ | exact hzD _ _ | exact zr3 (tS_b hW _) | exact zr3 (lsc_b hW _ _) | exact zr3 (sc_b hW _ _) | exact rkP_zr hW _ | exact scA_zr hW _ _ | exact zr3 (cW_b hW) | exact zr3 (wS_b hW) | exact zr3 (wS_b hWn) | (unfold zr at *; omega)) dL_acts_205 (by decide) (fun h205 => ?_) (fun h205 => ?_)
              · exfalso; omega
              · refine zx_iconst dL_acts_208 ?_
                refine zx_goto (tgt := 268) dL_acts_209 (by decide) ?_
                refine zx_iret rfl rfl dL_acts_268 ?_
                rw [hQ]
                refine ⟨congrArg (fun z : Int => (Sum.inl (some (zi z)) : Option zV ⊕ String)) ?_, ?_⟩
                · first | rfl | assumption | omega
                exact AP_e (aB_1 hu.2 (by omega)) (AP_d (zSame_rf _ _) hr189 (zSame_rf _ _) hz189)
          · refine zy_csHR [zf 9 0, zi (y % 5), zi (1 + (x % 30)), zi (aV mk (y % 5) z), zi (1 + ((x + z) % 9))] (sL_does_addF  hfl hz hB hW (HN_j hN (zSame_rf _ _)) (HBA_j hA (zSame_rf _ _)) (by first | assumption | omega) (by first | assumption | omega) (by first | assumption | omega) (by first | assumption | omega)) dL_acts_189 cw_RL_231 okL_does rfl (Nat.le_of_ble_eq_true rfl) ⟨Nat.le_of_ble_eq_true rfl, Nat.le_of_ble_eq_true rfl, Nat.le_of_ble_eq_true rfl, Nat.le_of_ble_eq_true rfl⟩ (fun τ189 hr189 => ?_)
            have hz189 : zOK τ189 := hr189.1
            refine zy_istore [zf 9 0, zi mk, zi u, zi x, zi y, zi z, zi (D 12 0), zi 0, zi (y % 5), zi (aV mk (y % 5) z), zi (-103), zu, zu, zu] dL_acts_192 (Nat.le_of_ble_eq_true rfl) (Nat.le_of_ble_eq_true rfl) rfl rfl ?_
            refine zx_iload dL_acts_194 rfl ?_
            refine zx_bipush dL_acts_196 rfl ?_
            refine zx_icmp_ne (tgt := 216) (by first | exact hz189 _ _ | assumption | exact zr_b _ | exact zcmp_r _ _ | exact hzD _ _ | exact zr3 (tS_b hW _) | exact zr3 (lsc_b hW _ _) | exact zr3 (sc_b hW _ _) | exact rkP_zr hW _ | exact scA_zr hW _ _ | exact zr3 (cW_b hW) | exact zr3 (wS_b hW) | exact zr3 (wS_b hWn) | (unfold zr at *; omega)) (by first | exact hz189 _ _ | assumption | exact zr_b _ | exact zcmp_r _ _ | exact hzD _ _ | exact zr3 (tS_b hW _) | exact zr3 (lsc_b hW _ _) | exact zr3 (sc_b hW _ _) | exact rkP_zr hW _ | exact scA_zr hW _ _ | exact zr3 (cW_b hW) | exact zr3 (wS_b hW) | exact zr3 (wS_b hWn) | (unfold zr at *; omega)) dL_acts_198 (by decide) (fun h198 => ?_) (fun h198 => ?_)
            · exfalso; omega
            · refine zx_iload dL_acts_201 rfl ?_
              refine zx_bipush dL_acts_203 rfl ?_
              refine zx_icmp_ne (tgt := 212) (by first | exact hz189 _ _ | assumption | exact zr_b _ | exact zcmp_r _ _ | exact hzD _ _ | exact zr3 (tS_b hW _) | exact zr3 (lsc_b hW _ _) | exact zr3 (sc_b hW _ _) | exact rkP_zr hW _ | exact scA_zr hW _ _ | exact zr3 (cW_b hW) | exact zr3 (wS_b hW) | exact zr3 (wS_b hWn) | (unfold zr at *; omega)) (by first | exact hz189 _ _ | assumption | exact zr_b _ | exact zcmp_r _ _ | exact hzD _ _ | exact zr3 (tS_b hW _) | exact zr3 (lsc_b hW _ _) | exact zr3 (sc_b hW _ _) | exact rkP_zr hW _ | exact scA_zr hW _ _ | exact zr3 (cW_b hW) | exact zr3 (wS_b hW) | exact zr3 (wS_b hWn) | (unfold zr at *; omega)) dL_acts_205 (by decide) (fun h205 => ?_) (fun h205 => ?_)
              · exact absurd h205 (by decide)
              · refine zx_iconst dL_acts_208 ?_
                refine zx_goto (tgt := 268) dL_acts_209 (by decide) ?_
                refine zx_iret rfl rfl dL_acts_268 ?_
                rw [hQ]
                refine ⟨congrArg (fun z : Int => (Sum.inl (some (zi z)) : Option zV ⊕ String)) ?_, ?_⟩
                · first | rfl | assumption | omega
                exact AP_e (aB_0 hu.2 (by omega)) (AP_f hW (zSame_rf _ _) hr189 (zSame_rf _ _) hz189 rfl)
      · refine zx_iloadN dL_acts_84 rfl rfl ?_
        refine zx_if_ne (tgt := 107) (by first | exact hz _ _ | assumption | exact zr_b _ | exact zcmp_r _ _ | exact hzD _ _ | exact zr3 (tS_b hW _) | exact zr3 (lsc_b hW _ _) | exact zr3 (sc_b hW _ _) | exact rkP_zr hW _ | exact scA_zr hW _ _ | exact zr3 (cW_b hW) | exact zr3 (wS_b hW) | exact zr3 (wS_b hWn) | (unfold zr at *; omega)) dL_acts_85 (by decide) (fun h85 => ?_) (fun h85 => ?_)
        · have hvk : WFk D (y % 5) (aV mk (y % 5) z) := aV_k hm hmb (by omega) hzz.1 (by omega)
          have hvz : zr (aV mk (y % 5) z) := by obtain ⟨-, -, v0, v1, -⟩ := hvk; unfold zr; omega
          refine zx_iload dL_acts_107 rfl ?_
          refine zx_if_ne (tgt := 119) (by first | exact hz _ _ | assumption | exact zr_b _ | exact zcmp_r _ _ | exact hzD _ _ | exact zr3 (tS_b hW _) | exact zr3 (lsc_b hW _ _) | exact zr3 (sc_b hW _ _) | exact rkP_zr hW _ | exact scA_zr hW _ _ | exact zr3 (cW_b hW) | exact zr3 (wS_b hW) | exact zr3 (wS_b hWn) | (unfold zr at *; omega)) dL_acts_109 (by decide) (fun h109 => ?_) (fun h109 => ?_)
          · refine zx_iload dL_acts_119 rfl ?_
            refine zx_iconst dL_acts_121 ?_
            refine zx_icmp_ne (tgt := 132) (by first | exact hz _ _ | assumption | exact zr_b _ | exact zcmp_r _ _ | exact hzD _ _ | exact zr3 (tS_b hW _) | exact zr3 (lsc_b hW _ _) | exact zr3 (sc_b hW _ _) | exact rkP_zr hW _ | exact scA_zr hW _ _ | exact zr3 (cW_b hW) | exact zr3 (wS_b hW) | exact zr3 (wS_b hWn) | (unfold zr at *; omega)) (by first | exact hz _ _ | assumption | exact zr_b _ | exact zcmp_r _ _ | exact hzD _ _ | exact zr3 (tS_b hW _) | exact zr3 (lsc_b hW _ _) | exact zr3 (sc_b hW _ _) | exact rkP_zr hW _ | exact scA_zr hW _ _ | exact zr3 (cW_b hW) | exact zr3 (wS_b hW) | exact zr3 (wS_b hWn) | (unfold zr at *; omega)) dL_acts_122 (by decide) (fun h122 => ?_) (fun h122 => ?_)
            · refine zx_iload dL_acts_132 rfl ?_
              refine zx_iconst dL_acts_134 ?_
              refine zx_icmp_ne (tgt := 145) (by first | exact hz _ _ | assumption | exact zr_b _ | exact zcmp_r _ _ | exact hzD _ _ | exact zr3 (tS_b hW _) | exact zr3 (lsc_b hW _ _) | exact zr3 (sc_b hW _ _) | exact rkP_zr hW _ | exact scA_zr hW _ _ | exact zr3 (cW_b hW) | exact zr3 (wS_b hW) | exact zr3 (wS_b hWn) | (unfold zr at *; omega)) (by first | exact hz _ _ | assumption | exact zr_b _ | exact zcmp_r _ _ | exact hzD _ _ | exact zr3 (tS_b hW _) | exact zr3 (lsc_b hW _ _) | exact zr3 (sc_b hW _ _) | exact rkP_zr hW _ | exact scA_zr hW _ _ | exact zr3 (cW_b hW) | exact zr3 (wS_b hW) | exact zr3 (wS_b hWn) | (unfold zr at *; omega)) dL_acts_135 (by decide) (fun h135 => ?_) (fun h135 => ?_)
              · refine zx_iload dL_acts_145 rfl ?_
                refine zx_iconst dL_acts_147 ?_
                refine zx_icmp_ne (tgt := 158) (by first | exact hz _ _ | assumption | exact zr_b _ | exact zcmp_r _ _ | exact hzD _ _ | exact zr3 (tS_b hW _) | exact zr3 (lsc_b hW _ _) | exact zr3 (sc_b hW _ _) | exact rkP_zr hW _ | exact scA_zr hW _ _ | exact zr3 (cW_b hW) | exact zr3 (wS_b hW) | exact zr3 (wS_b hWn) | (unfold zr at *; omega)) (by first | exact hz _ _ | assumption | exact zr_b _ | exact zcmp_r _ _ | exact hzD _ _ | exact zr3 (tS_b hW _) | exact zr3 (lsc_b hW _ _) | exact zr3 (sc_b hW _ _) | exact rkP_zr hW _ | exact scA_zr hW _ _ | exact zr3 (cW_b hW) | exact zr3 (wS_b hW) | exact zr3 (wS_b hWn) | (unfold zr at *; omega)) dL_acts_148 (by decide) (fun h148 => ?_) (fun h148 => ?_)
                · refine zx_sipush dL_acts_158 rfl ?_
                  refine zx_iload dL_acts_161 rfl ?_
                  refine zx_bipush dL_acts_163 rfl ?_
                  refine zx_irem (by omega) (by omega) (by omega) (by omega) dL_acts_165 ?_
                  refine zx_iadd dL_acts_166 ?_
                  refine zy_top (b := aV mk (y % 5) z) ((by unfold aV; rw [if_neg h109, if_neg h122, if_neg h135, if_neg h148])) ?_
                  refine zy_istore [zf 9 0, zi mk, zi u, zi x, zi y, zi z, zi (D 12 0), zi 0, zi (y % 5), zi (aV mk (y % 5) z), zu, zu, zu, zu] dL_acts_167 (Nat.le_of_ble_eq_true rfl) (Nat.le_of_ble_eq_true rfl) rfl rfl ?_
                  refine zx_aloadN dL_acts_169 rfl rfl ?_
                  refine zx_iload dL_acts_170 rfl ?_
                  refine zx_iconst dL_acts_172 ?_
                  refine zx_iloadN dL_acts_173 rfl rfl ?_
                  refine zx_bipush dL_acts_174 rfl ?_
                  refine zx_irem (by omega) (by omega) (by omega) (by omega) dL_acts_176 ?_
                  refine zx_iadd dL_acts_177 ?_
                  refine zx_iload dL_acts_178 rfl ?_
                  refine zx_iconst dL_acts_180 ?_
                  refine zx_iloadN dL_acts_181 rfl rfl ?_
                  refine zx_iload dL_acts_182 rfl ?_
                  refine zx_iadd dL_acts_184 ?_
                  refine zx_bipush dL_acts_185 rfl ?_
                  refine zx_irem (by omega) (by omega) (by omega) (by omega) dL_acts_187 ?_
                  refine zx_iadd dL_acts_188 ?_
                  by_cases hb189 : D 12 0 < 40
                  · refine zy_csHR [zf 9 0, zi (y % 5), zi (1 + (x % 30)), zi (aV mk (y % 5) z), zi (1 + ((x + z) % 9))] (sL_does_add  hfl hz hB hW (HN_j hN (zSame_rf _ _)) (HBA_j hA (zSame_rf _ _)) (by first | assumption | omega) (by first | assumption | omega) (by first | assumption | omega) (by first | assumption | omega)) dL_acts_189 cw_RL_231 okL_does rfl (Nat.le_of_ble_eq_true rfl) ⟨Nat.le_of_ble_eq_true rfl, Nat.le_of_ble_eq_true rfl, Nat.le_of_ble_eq_true rfl, Nat.le_of_ble_eq_true rfl⟩ (fun τ189 hr189 => ?_)
                    have hz189 : zOK τ189 := hr189.1
                    have hl := hr189.2.2.2.2.2.2
                    have hWn := hr189.2.2.2.2.2.1
                    have hzDn := hzDof (rfl : bK τ189 = bK τ189) hz189
                    obtain ⟨e12, e14, e15, e17, e18⟩ := ad_post hl (by omega)
                    refine zy_istore [zf 9 0, zi mk, zi u, zi x, zi y, zi z, zi (D 12 0), zi 0, zi (y % 5), zi (aV mk (y % 5) z), zi (D 12 0), zu, zu, zu] dL_acts_192 (Nat.le_of_ble_eq_true rfl) (Nat.le_of_ble_eq_true rfl) rfl rfl ?_
                    refine zx_iload dL_acts_194 rfl ?_
                    refine zx_bipush dL_acts_196 rfl ?_
                    refine zx_icmp_ne (tgt := 216) (by first | exact hz189 _ _ | assumption | exact zr_b _ | exact zcmp_r _ _ | exact hzD _ _ | exact zr3 (tS_b hW _) | exact zr3 (lsc_b hW _ _) | exact zr3 (sc_b hW _ _) | exact rkP_zr hW _ | exact scA_zr hW _ _ | exact zr3 (cW_b hW) | exact zr3 (wS_b hW) | exact zr3 (wS_b hWn) | (unfold zr at *; omega)) (by first | exact hz189 _ _ | assumption | exact zr_b _ | exact zcmp_r _ _ | exact hzD _ _ | exact zr3 (tS_b hW _) | exact zr3 (lsc_b hW _ _) | exact zr3 (sc_b hW _ _) | exact rkP_zr hW _ | exact scA_zr hW _ _ | exact zr3 (cW_b hW) | exact zr3 (wS_b hW) | exact zr3 (wS_b hWn) | (unfold zr at *; omega)) dL_acts_198 (by decide) (fun h198 => ?_) (fun h198 => ?_)
                    · refine zx_iload dL_acts_216 rfl ?_
                      refine zx_iload dL_acts_218 rfl ?_
                      refine zx_icmp_ne (tgt := 267) (by first | exact hz189 _ _ | assumption | exact zr_b _ | exact zcmp_r _ _ | exact hzD _ _ | exact zr3 (tS_b hW _) | exact zr3 (lsc_b hW _ _) | exact zr3 (sc_b hW _ _) | exact rkP_zr hW _ | exact scA_zr hW _ _ | exact zr3 (cW_b hW) | exact zr3 (wS_b hW) | exact zr3 (wS_b hWn) | (unfold zr at *; omega)) (by first | exact hz189 _ _ | assumption | exact zr_b _ | exact zcmp_r _ _ | exact hzD _ _ | exact zr3 (tS_b hW _) | exact zr3 (lsc_b hW _ _) | exact zr3 (sc_b hW _ _) | exact rkP_zr hW _ | exact scA_zr hW _ _ | exact zr3 (cW_b hW) | exact zr3 (wS_b hW) | exact zr3 (wS_b hWn) | (unfold zr at *; omega)) dL_acts_220 (by decide) (fun h220 => ?_) (fun h220 => ?_)
                      · exfalso; omega
                      · refine zx_aloadN dL_acts_223 rfl rfl ?_
                        refine zx_iload dL_acts_224 rfl ?_
                        refine zy_cv [zi (D 12 0)] (fX9_isRead  hfl hz189 rfl hr189.2.2.2.2.2.1 (by first | exact hz189 _ _ | assumption | exact zr_b _ | exact zcmp_r _ _ | exact hzD _ _ | exact zr3 (tS_b hW _) | exact zr3 (lsc_b hW _ _) | exact zr3 (sc_b hW _ _) | exact rkP_zr hW _ | exact scA_zr hW _ _ | exact zr3 (cW_b hW) | exact zr3 (wS_b hW) | exact zr3 (wS_b hWn) | (unfold zr at *; omega)) (by first | assumption | omega)) dL_acts_226 (by decide) rfl cw_RL_122 okX9_isRead rfl (Nat.le_of_ble_eq_true rfl) ⟨Nat.le_of_ble_eq_true rfl, Nat.le_of_ble_eq_true rfl, Nat.le_of_ble_eq_true rfl, Nat.le_of_ble_eq_true rfl⟩ ?_
                        refine zx_if_ne (tgt := 267) (by first | exact hz189 _ _ | assumption | exact zr_b _ | exact zcmp_r _ _ | exact hzD _ _ | exact zr3 (tS_b hW _) | exact zr3 (lsc_b hW _ _) | exact zr3 (sc_b hW _ _) | exact rkP_zr hW _ | exact scA_zr hW _ _ | exact zr3 (cW_b hW) | exact zr3 (wS_b hW) | exact zr3 (wS_b hWn) | (unfold zr at *; omega)) dL_acts_229 (by decide) (fun h229 => ?_) (fun h229 => ?_)
                        · exfalso; omega
                        · refine zx_aloadN dL_acts_232 rfl rfl ?_
                          refine zx_iload dL_acts_233 rfl ?_
                          refine zy_cv [zi (D 12 0)] (fX9_isAside  hfl hz189 rfl hr189.2.2.2.2.2.1 (by first | exact hz189 _ _ | assumption | exact zr_b _ | exact zcmp_r _ _ | exact hzD _ _ | exact zr3 (tS_b hW _) | exact zr3 (lsc_b hW _ _) | exact zr3 (sc_b hW _ _) | exact rkP_zr hW _ | exact scA_zr hW _ _ | exact zr3 (cW_b hW) | exact zr3 (wS_b hW) | exact zr3 (wS_b hWn) | (unfold zr at *; omega)) (by first | assumption | omega)) dL_acts_235 (by decide) rfl cw_RL_128 okX9_isAside rfl (Nat.le_of_ble_eq_true rfl) ⟨Nat.le_of_ble_eq_true rfl, Nat.le_of_ble_eq_true rfl, Nat.le_of_ble_eq_true rfl, Nat.le_of_ble_eq_true rfl⟩ ?_
                          refine zx_if_ne (tgt := 267) (by first | exact hz189 _ _ | assumption | exact zr_b _ | exact zcmp_r _ _ | exact hzD _ _ | exact zr3 (tS_b hW _) | exact zr3 (lsc_b hW _ _) | exact zr3 (sc_b hW _ _) | exact rkP_zr hW _ | exact scA_zr hW _ _ | exact zr3 (cW_b hW) | exact zr3 (wS_b hW) | exact zr3 (wS_b hWn) | (unfold zr at *; omega)) dL_acts_238 (by decide) (fun h238 => ?_) (fun h238 => ?_)
                          · exfalso; omega
                          · refine zx_aloadN dL_acts_241 rfl rfl ?_
                            refine zx_iload dL_acts_242 rfl ?_
                            refine zy_cv [zi (D 12 0)] (fX9_kindOf  hfl hz189 rfl hr189.2.2.2.2.2.1 (by first | exact hz189 _ _ | assumption | exact zr_b _ | exact zcmp_r _ _ | exact hzD _ _ | exact zr3 (tS_b hW _) | exact zr3 (lsc_b hW _ _) | exact zr3 (sc_b hW _ _) | exact rkP_zr hW _ | exact scA_zr hW _ _ | exact zr3 (cW_b hW) | exact zr3 (wS_b hW) | exact zr3 (wS_b hWn) | (unfold zr at *; omega)) (by first | assumption | omega)) dL_acts_244 (by decide) rfl cw_RL_109 okX9_kindOf rfl (Nat.le_of_ble_eq_true rfl) ⟨Nat.le_of_ble_eq_true rfl, Nat.le_of_ble_eq_true rfl, Nat.le_of_ble_eq_true rfl, Nat.le_of_ble_eq_true rfl⟩ ?_
                            refine zx_iload dL_acts_247 rfl ?_
                            refine zx_icmp_ne (tgt := 267) (by first | exact hz189 _ _ | assumption | exact zr_b _ | exact zcmp_r _ _ | exact hzD _ _ | exact zr3 (tS_b hW _) | exact zr3 (lsc_b hW _ _) | exact zr3 (sc_b hW _ _) | exact rkP_zr hW _ | exact scA_zr hW _ _ | exact zr3 (cW_b hW) | exact zr3 (wS_b hW) | exact zr3 (wS_b hWn) | (unfold zr at *; omega)) (by first | exact hz189 _ _ | assumption | exact zr_b _ | exact zcmp_r _ _ | exact hzD _ _ | exact zr3 (tS_b hW _) | exact zr3 (lsc_b hW _ _) | exact zr3 (sc_b hW _ _) | exact rkP_zr hW _ | exact scA_zr hW _ _ | exact zr3 (cW_b hW) | exact zr3 (wS_b hW) | exact zr3 (wS_b hWn) | (unfold zr at *; omega)) dL_acts_249 (by decide) (fun h249 => ?_) (fun h249 => ?_)
                            · exfalso; omega
                            · refine zx_aloadN dL_acts_252 rfl rfl ?_
                              refine zx_iload dL_acts_253 rfl ?_
                              refine zy_cv [zi (D 12 0)] (fX9_valueOf  hfl hz189 rfl hr189.2.2.2.2.2.1 (by first | exact hz189 _ _ | assumption | exact zr_b _ | exact zcmp_r _ _ | exact hzD _ _ | exact zr3 (tS_b hW _) | exact zr3 (lsc_b hW _ _) | exact zr3 (sc_b hW _ _) | exact rkP_zr hW _ | exact scA_zr hW _ _ | exact zr3 (cW_b hW) | exact zr3 (wS_b hW) | exact zr3 (wS_b hWn) | (unfold zr at *; omega)) (by first | assumption | omega)) dL_acts_255 (by decide) rfl cw_RL_114 okX9_valueOf rfl (Nat.le_of_ble_eq_true rfl) ⟨Nat.le_of_ble_eq_true rfl, Nat.le_of_ble_eq_true rfl, Nat.le_of_ble_eq_true rfl, Nat.le_of_ble_eq_true rfl⟩ ?_
                              refine zx_iload dL_acts_258 rfl ?_
                              refine zx_icmp_ne (tgt := 267) (by first | exact hz189 _ _ | assumption | exact zr_b _ | exact zcmp_r _ _ | exact hzD _ _ | exact zr3 (tS_b hW _) | exact zr3 (lsc_b hW _ _) | exact zr3 (sc_b hW _ _) | exact rkP_zr hW _ | exact scA_zr hW _ _ | exact zr3 (cW_b hW) | exact zr3 (wS_b hW) | exact zr3 (wS_b hWn) | (unfold zr at *; omega)) (by first | exact hz189 _ _ | assumption | exact zr_b _ | exact zcmp_r _ _ | exact hzD _ _ | exact zr3 (tS_b hW _) | exact zr3 (lsc_b hW _ _) | exact zr3 (sc_b hW _ _) | exact rkP_zr hW _ | exact scA_zr hW _ _ | exact zr3 (cW_b hW) | exact zr3 (wS_b hW) | exact zr3 (wS_b hWn) | (unfold zr at *; omega)) dL_acts_260 (by decide) (fun h260 => ?_) (fun h260 => ?_)
                              · exfalso; omega
                              · refine zx_iconst dL_acts_263 ?_
                                refine zx_goto (tgt := 268) dL_acts_264 (by decide) ?_
                                refine zx_iret rfl rfl dL_acts_268 ?_
                                rw [hQ]
                                refine ⟨congrArg (fun z : Int => (Sum.inl (some (zi z)) : Option zV ⊕ String)) ?_, ?_⟩
                                · first | rfl | assumption | omega
                                exact AP_e (aB_1 hu.2 (by omega)) (AP_d (zSame_rf _ _) hr189 (zSame_rf _ _) hz189)
                    · refine zx_iload dL_acts_201 rfl ?_
                      refine zx_bipush dL_acts_203 rfl ?_
                      refine zx_icmp_ne (tgt := 212) (by first | exact hz189 _ _ | assumption | exact zr_b _ | exact zcmp_r _ _ | exact hzD _ _ | exact zr3 (tS_b hW _) | exact zr3 (lsc_b hW _ _) | exact zr3 (sc_b hW _ _) | exact rkP_zr hW _ | exact scA_zr hW _ _ | exact zr3 (cW_b hW) | exact zr3 (wS_b hW) | exact zr3 (wS_b hWn) | (unfold zr at *; omega)) (by first | exact hz189 _ _ | assumption | exact zr_b _ | exact zcmp_r _ _ | exact hzD _ _ | exact zr3 (tS_b hW _) | exact zr3 (lsc_b hW _ _) | exact zr3 (sc_b hW _ _) | exact rkP_zr hW _ | exact scA_zr hW _ _ | exact zr3 (cW_b hW) | exact zr3 (wS_b hW) | exact zr3 (wS_b hWn) | (unfold zr at *; omega)) dL_acts_205 (by decide) (fun h205 => ?_) (fun h205 => ?_)
                      · exfalso; omega
                      · refine zx_iconst dL_acts_208 ?_
                        refine zx_goto (tgt := 268) dL_acts_209 (by decide) ?_
                        refine zx_iret rfl rfl dL_acts_268 ?_
                        rw [hQ]
                        refine ⟨congrArg (fun z : Int => (Sum.inl (some (zi z)) : Option zV ⊕ String)) ?_, ?_⟩
                        · first | rfl | assumption | omega
                        exact AP_e (aB_1 hu.2 (by omega)) (AP_d (zSame_rf _ _) hr189 (zSame_rf _ _) hz189)
                  · refine zy_csHR [zf 9 0, zi (y % 5), zi (1 + (x % 30)), zi (aV mk (y % 5) z), zi (1 + ((x + z) % 9))] (sL_does_addF  hfl hz hB hW (HN_j hN (zSame_rf _ _)) (HBA_j hA (zSame_rf _ _)) (by first | assumption | omega) (by first | assumption | omega) (by first | assumption | omega) (by first | assumption | omega)) dL_acts_189 cw_RL_231 okL_does rfl (Nat.le_of_ble_eq_true rfl) ⟨Nat.le_of_ble_eq_true rfl, Nat.le_of_ble_eq_true rfl, Nat.le_of_ble_eq_true rfl, Nat.le_of_ble_eq_true rfl⟩ (fun τ189 hr189 => ?_)
                    have hz189 : zOK τ189 := hr189.1
                    refine zy_istore [zf 9 0, zi mk, zi u, zi x, zi y, zi z, zi (D 12 0), zi 0, zi (y % 5), zi (aV mk (y % 5) z), zi (-103), zu, zu, zu] dL_acts_192 (Nat.le_of_ble_eq_true rfl) (Nat.le_of_ble_eq_true rfl) rfl rfl ?_
                    refine zx_iload dL_acts_194 rfl ?_
                    refine zx_bipush dL_acts_196 rfl ?_
                    refine zx_icmp_ne (tgt := 216) (by first | exact hz189 _ _ | assumption | exact zr_b _ | exact zcmp_r _ _ | exact hzD _ _ | exact zr3 (tS_b hW _) | exact zr3 (lsc_b hW _ _) | exact zr3 (sc_b hW _ _) | exact rkP_zr hW _ | exact scA_zr hW _ _ | exact zr3 (cW_b hW) | exact zr3 (wS_b hW) | exact zr3 (wS_b hWn) | (unfold zr at *; omega)) (by first | exact hz189 _ _ | assumption | exact zr_b _ | exact zcmp_r _ _ | exact hzD _ _ | exact zr3 (tS_b hW _) | exact zr3 (lsc_b hW _ _) | exact zr3 (sc_b hW _ _) | exact rkP_zr hW _ | exact scA_zr hW _ _ | exact zr3 (cW_b hW) | exact zr3 (wS_b hW) | exact zr3 (wS_b hWn) | (unfold zr at *; omega)) dL_acts_198 (by decide) (fun h198 => ?_) (fun h198 => ?_)
                    · exfalso; omega
                    · refine zx_iload dL_acts_201 rfl ?_
                      refine zx_bipush dL_acts_203 rfl ?_
                      refine zx_icmp_ne (tgt := 212) (by first | exact hz189 _ _ | assumption | exact zr_b _ | exact zcmp_r _ _ | exact hzD _ _ | exact zr3 (tS_b hW _) | exact zr3 (lsc_b hW _ _) | exact zr3 (sc_b hW _ _) | exact rkP_zr hW _ | exact scA_zr hW _ _ | exact zr3 (cW_b hW) | exact zr3 (wS_b hW) | exact zr3 (wS_b hWn) | (unfold zr at *; omega)) (by first | exact hz189 _ _ | assumption | exact zr_b _ | exact zcmp_r _ _ | exact hzD _ _ | exact zr3 (tS_b hW _) | exact zr3 (lsc_b hW _ _) | exact zr3 (sc_b hW _ _) | exact rkP_zr hW _ | exact scA_zr hW _ _ | exact zr3 (cW_b hW) | exact zr3 (wS_b hW) | exact zr3 (wS_b hWn) | (unfold zr at *; omega)) dL_acts_205 (by decide) (fun h205 => ?_) (fun h205 => ?_)
                      · exact absurd h205 (by decide)
                      · refine zx_iconst dL_acts_208 ?_
                        refine zx_goto (tgt := 268) dL_acts_209 (by decide) ?_
                        refine zx_iret rfl rfl dL_acts_268 ?_
                        rw [hQ]
                        refine ⟨congrArg (fun z : Int => (Sum.inl (some (zi z)) : Option zV ⊕ String)) ?_, ?_⟩
                        · first | rfl | assumption | omega
                        exact AP_e (aB_0 hu.2 (by omega)) (AP_f hW (zSame_rf _ _) hr189 (zSame_rf _ _) hz189 rfl)
                · refine zx_iload dL_acts_151 rfl ?_
                  refine zx_iconst dL_acts_153 ?_
                  refine zx_irem (by omega) (by omega) (by omega) (by omega) dL_acts_154 ?_
                  refine zy_top (b := aV mk (y % 5) z) ((by unfold aV; rw [if_neg h109, if_neg h122, if_neg h135, if_pos h148])) ?_
                  refine zx_goto (tgt := 167) dL_acts_155 (by decide) ?_
                  refine zy_istore [zf 9 0, zi mk, zi u, zi x, zi y, zi z, zi (D 12 0), zi 0, zi (y % 5), zi (aV mk (y % 5) z), zu, zu, zu, zu] dL_acts_167 (Nat.le_of_ble_eq_true rfl) (Nat.le_of_ble_eq_true rfl) rfl rfl ?_
                  refine zx_aloadN dL_acts_169 rfl rfl ?_
                  refine zx_iload dL_acts_170 rfl ?_
                  refine zx_iconst dL_acts_172 ?_
                  refine zx_iloadN dL_acts_173 rfl rfl ?_
                  refine zx_bipush dL_acts_174 rfl ?_
                  refine zx_irem (by omega) (by omega) (by omega) (by omega) dL_acts_176 ?_
                  refine zx_iadd dL_acts_177 ?_
                  refine zx_iload dL_acts_178 rfl ?_
                  refine zx_iconst dL_acts_180 ?_
                  refine zx_iloadN dL_acts_181 rfl rfl ?_
                  refine zx_iload dL_acts_182 rfl ?_
                  refine zx_iadd dL_acts_184 ?_
                  refine zx_bipush dL_acts_185 rfl ?_
                  refine zx_irem (by omega) (by omega) (by omega) (by omega) dL_acts_187 ?_
                  refine zx_iadd dL_acts_188 ?_
                  by_cases hb189 : D 12 0 < 40
                  · refine zy_csHR [zf 9 0, zi (y % 5), zi (1 + (x % 30)), zi (aV mk (y % 5) z), zi (1 + ((x + z) % 9))] (sL_does_add  hfl hz hB hW (HN_j hN (zSame_rf _ _)) (HBA_j hA (zSame_rf _ _)) (by first | assumption | omega) (by first | assumption | omega) (by first | assumption | omega) (by first | assumption | omega)) dL_acts_189 cw_RL_231 okL_does rfl (Nat.le_of_ble_eq_true rfl) ⟨Nat.le_of_ble_eq_true rfl, Nat.le_of_ble_eq_true rfl, Nat.le_of_ble_eq_true rfl, Nat.le_of_ble_eq_true rfl⟩ (fun τ189 hr189 => ?_)
                    have hz189 : zOK τ189 := hr189.1
                    have hl := hr189.2.2.2.2.2.2
                    have hWn := hr189.2.2.2.2.2.1
                    have hzDn := hzDof (rfl : bK τ189 = bK τ189) hz189
                    obtain ⟨e12, e14, e15, e17, e18⟩ := ad_post hl (by omega)
                    refine zy_istore [zf 9 0, zi mk, zi u, zi x, zi y, zi z, zi (D 12 0), zi 0, zi (y % 5), zi (aV mk (y % 5) z), zi (D 12 0), zu, zu, zu] dL_acts_192 (Nat.le_of_ble_eq_true rfl) (Nat.le_of_ble_eq_true rfl) rfl rfl ?_
                    refine zx_iload dL_acts_194 rfl ?_
                    refine zx_bipush dL_acts_196 rfl ?_
                    refine zx_icmp_ne (tgt := 216) (by first | exact hz189 _ _ | assumption | exact zr_b _ | exact zcmp_r _ _ | exact hzD _ _ | exact zr3 (tS_b hW _) | exact zr3 (lsc_b hW _ _) | exact zr3 (sc_b hW _ _) | exact rkP_zr hW _ | exact scA_zr hW _ _ | exact zr3 (cW_b hW) | exact zr3 (wS_b hW) | exact zr3 (wS_b hWn) | (unfold zr at *; omega)) (by first | exact hz189 _ _ | assumption | exact zr_b _ | exact zcmp_r _ _ | exact hzD _ _ | exact zr3 (tS_b hW _) | exact zr3 (lsc_b hW _ _) | exact zr3 (sc_b hW _ _) | exact rkP_zr hW _ | exact scA_zr hW _ _ | exact zr3 (cW_b hW) | exact zr3 (wS_b hW) | exact zr3 (wS_b hWn) | (unfold zr at *; omega)) dL_acts_198 (by decide) (fun h198 => ?_) (fun h198 => ?_)
                    · refine zx_iload dL_acts_216 rfl ?_
                      refine zx_iload dL_acts_218 rfl ?_
                      refine zx_icmp_ne (tgt := 267) (by first | exact hz189 _ _ | assumption | exact zr_b _ | exact zcmp_r _ _ | exact hzD _ _ | exact zr3 (tS_b hW _) | exact zr3 (lsc_b hW _ _) | exact zr3 (sc_b hW _ _) | exact rkP_zr hW _ | exact scA_zr hW _ _ | exact zr3 (cW_b hW) | exact zr3 (wS_b hW) | exact zr3 (wS_b hWn) | (unfold zr at *; omega)) (by first | exact hz189 _ _ | assumption | exact zr_b _ | exact zcmp_r _ _ | exact hzD _ _ | exact zr3 (tS_b hW _) | exact zr3 (lsc_b hW _ _) | exact zr3 (sc_b hW _ _) | exact rkP_zr hW _ | exact scA_zr hW _ _ | exact zr3 (cW_b hW) | exact zr3 (wS_b hW) | exact zr3 (wS_b hWn) | (unfold zr at *; omega)) dL_acts_220 (by decide) (fun h220 => ?_) (fun h220 => ?_)
                      · exfalso; omega
                      · refine zx_aloadN dL_acts_223 rfl rfl ?_
                        refine zx_iload dL_acts_224 rfl ?_
                        refine zy_cv [zi (D 12 0)] (fX9_isRead  hfl hz189 rfl hr189.2.2.2.2.2.1 (by first | exact hz189 _ _ | assumption | exact zr_b _ | exact zcmp_r _ _ | exact hzD _ _ | exact zr3 (tS_b hW _) | exact zr3 (lsc_b hW _ _) | exact zr3 (sc_b hW _ _) | exact rkP_zr hW _ | exact scA_zr hW _ _ | exact zr3 (cW_b hW) | exact zr3 (wS_b hW) | exact zr3 (wS_b hWn) | (unfold zr at *; omega)) (by first | assumption | omega)) dL_acts_226 (by decide) rfl cw_RL_122 okX9_isRead rfl (Nat.le_of_ble_eq_true rfl) ⟨Nat.le_of_ble_eq_true rfl, Nat.le_of_ble_eq_true rfl, Nat.le_of_ble_eq_true rfl, Nat.le_of_ble_eq_true rfl⟩ ?_
                        refine zx_if_ne (tgt := 267) (by first | exact hz189 _ _ | assumption | exact zr_b _ | exact zcmp_r _ _ | exact hzD _ _ | exact zr3 (tS_b hW _) | exact zr3 (lsc_b hW _ _) | exact zr3 (sc_b hW _ _) | exact rkP_zr hW _ | exact scA_zr hW _ _ | exact zr3 (cW_b hW) | exact zr3 (wS_b hW) | exact zr3 (wS_b hWn) | (unfold zr at *; omega)) dL_acts_229 (by decide) (fun h229 => ?_) (fun h229 => ?_)
                        · exfalso; omega
                        · refine zx_aloadN dL_acts_232 rfl rfl ?_
                          refine zx_iload dL_acts_233 rfl ?_
                          refine zy_cv [zi (D 12 0)] (fX9_isAside  hfl hz189 rfl hr189.2.2.2.2.2.1 (by first | exact hz189 _ _ | assumption | exact zr_b _ | exact zcmp_r _ _ | exact hzD _ _ | exact zr3 (tS_b hW _) | exact zr3 (lsc_b hW _ _) | exact zr3 (sc_b hW _ _) | exact rkP_zr hW _ | exact scA_zr hW _ _ | exact zr3 (cW_b hW) | exact zr3 (wS_b hW) | exact zr3 (wS_b hWn) | (unfold zr at *; omega)) (by first | assumption | omega)) dL_acts_235 (by decide) rfl cw_RL_128 okX9_isAside rfl (Nat.le_of_ble_eq_true rfl) ⟨Nat.le_of_ble_eq_true rfl, Nat.le_of_ble_eq_true rfl, Nat.le_of_ble_eq_true rfl, Nat.le_of_ble_eq_true rfl⟩ ?_
                          refine zx_if_ne (tgt := 267) (by first | exact hz189 _ _ | assumption | exact zr_b _ | exact zcmp_r _ _ | exact hzD _ _ | exact zr3 (tS_b hW _) | exact zr3 (lsc_b hW _ _) | exact zr3 (sc_b hW _ _) | exact rkP_zr hW _ | exact scA_zr hW _ _ | exact zr3 (cW_b hW) | exact zr3 (wS_b hW) | exact zr3 (wS_b hWn) | (unfold zr at *; omega)) dL_acts_238 (by decide) (fun h238 => ?_) (fun h238 => ?_)
                          · exfalso; omega
                          · refine zx_aloadN dL_acts_241 rfl rfl ?_
                            refine zx_iload dL_acts_242 rfl ?_
                            refine zy_cv [zi (D 12 0)] (fX9_kindOf  hfl hz189 rfl hr189.2.2.2.2.2.1 (by first | exact hz189 _ _ | assumption | exact zr_b _ | exact zcmp_r _ _ | exact hzD _ _ | exact zr3 (tS_b hW _) | exact zr3 (lsc_b hW _ _) | exact zr3 (sc_b hW _ _) | exact rkP_zr hW _ | exact scA_zr hW _ _ | exact zr3 (cW_b hW) | exact zr3 (wS_b hW) | exact zr3 (wS_b hWn) | (unfold zr at *; omega)) (by first | assumption | omega)) dL_acts_244 (by decide) rfl cw_RL_109 okX9_kindOf rfl (Nat.le_of_ble_eq_true rfl) ⟨Nat.le_of_ble_eq_true rfl, Nat.le_of_ble_eq_true rfl, Nat.le_of_ble_eq_true rfl, Nat.le_of_ble_eq_true rfl⟩ ?_
                            refine zx_iload dL_acts_247 rfl ?_
                            refine zx_icmp_ne (tgt := 267) (by first | exact hz189 _ _ | assumption | exact zr_b _ | exact zcmp_r _ _ | exact hzD _ _ | exact zr3 (tS_b hW _) | exact zr3 (lsc_b hW _ _) | exact zr3 (sc_b hW _ _) | exact rkP_zr hW _ | exact scA_zr hW _ _ | exact zr3 (cW_b hW) | exact zr3 (wS_b hW) | exact zr3 (wS_b hWn) | (unfold zr at *; omega)) (by first | exact hz189 _ _ | assumption | exact zr_b _ | exact zcmp_r _ _ | exact hzD _ _ | exact zr3 (tS_b hW _) | exact zr3 (lsc_b hW _ _) | exact zr3 (sc_b hW _ _) | exact rkP_zr hW _ | exact scA_zr hW _ _ | exact zr3 (cW_b hW) | exact zr3 (wS_b hW) | exact zr3 (wS_b hWn) | (unfold zr at *; omega)) dL_acts_249 (by decide) (fun h249 => ?_) (fun h249 => ?_)
                            · exfalso; omega
                            · refine zx_aloadN dL_acts_252 rfl rfl ?_
                              refine zx_iload dL_acts_253 rfl ?_
                              refine zy_cv [zi (D 12 0)] (fX9_valueOf  hfl hz189 rfl hr189.2.2.2.2.2.1 (by first | exact hz189 _ _ | assumption | exact zr_b _ | exact zcmp_r _ _ | exact hzD _ _ | exact zr3 (tS_b hW _) | exact zr3 (lsc_b hW _ _) | exact zr3 (sc_b hW _ _) | exact rkP_zr hW _ | exact scA_zr hW _ _ | exact zr3 (cW_b hW) | exact zr3 (wS_b hW) | exact zr3 (wS_b hWn) | (unfold zr at *; omega)) (by first | assumption | omega)) dL_acts_255 (by decide) rfl cw_RL_114 okX9_valueOf rfl (Nat.le_of_ble_eq_true rfl) ⟨Nat.le_of_ble_eq_true rfl, Nat.le_of_ble_eq_true rfl, Nat.le_of_ble_eq_true rfl, Nat.le_of_ble_eq_true rfl⟩ ?_
                              refine zx_iload dL_acts_258 rfl ?_
                              refine zx_icmp_ne (tgt := 267) (by first | exact hz189 _ _ | assumption | exact zr_b _ | exact zcmp_r _ _ | exact hzD _ _ | exact zr3 (tS_b hW _) | exact zr3 (lsc_b hW _ _) | exact zr3 (sc_b hW _ _) | exact rkP_zr hW _ | exact scA_zr hW _ _ | exact zr3 (cW_b hW) | exact zr3 (wS_b hW) | exact zr3 (wS_b hWn) | (unfold zr at *; omega)) (by first | exact hz189 _ _ | assumption | exact zr_b _ | exact zcmp_r _ _ | exact hzD _ _ | exact zr3 (tS_b hW _) | exact zr3 (lsc_b hW _ _) | exact zr3 (sc_b hW _ _) | exact rkP_zr hW _ | exact scA_zr hW _ _ | exact zr3 (cW_b hW) | exact zr3 (wS_b hW) | exact zr3 (wS_b hWn) | (unfold zr at *; omega)) dL_acts_260 (by decide) (fun h260 => ?_) (fun h260 => ?_)
                              · exfalso; omega
                              · refine zx_iconst dL_acts_263 ?_
                                refine zx_goto (tgt := 268) dL_acts_264 (by decide) ?_
                                refine zx_iret rfl rfl dL_acts_268 ?_
                                rw [hQ]
                                refine ⟨congrArg (fun z : Int => (Sum.inl (some (zi z)) : Option zV ⊕ String)) ?_, ?_⟩
                                · first | rfl | assumption | omega
                                exact AP_e (aB_1 hu.2 (by omega)) (AP_d (zSame_rf _ _) hr189 (zSame_rf _ _) hz189)
                    · refine zx_iload dL_acts_201 rfl ?_
                      refine zx_bipush dL_acts_203 rfl ?_
                      refine zx_icmp_ne (tgt := 212) (by first | exact hz189 _ _ | assumption | exact zr_b _ | exact zcmp_r _ _ | exact hzD _ _ | exact zr3 (tS_b hW _) | exact zr3 (lsc_b hW _ _) | exact zr3 (sc_b hW _ _) | exact rkP_zr hW _ | exact scA_zr hW _ _ | exact zr3 (cW_b hW) | exact zr3 (wS_b hW) | exact zr3 (wS_b hWn) | (unfold zr at *; omega)) (by first | exact hz189 _ _ | assumption | exact zr_b _ | exact zcmp_r _ _ | exact hzD _ _ | exact zr3 (tS_b hW _) | exact zr3 (lsc_b hW _ _) | exact zr3 (sc_b hW _ _) | exact rkP_zr hW _ | exact scA_zr hW _ _ | exact zr3 (cW_b hW) | exact zr3 (wS_b hW) | exact zr3 (wS_b hWn) | (unfold zr at *; omega)) dL_acts_205 (by decide) (fun h205 => ?_) (fun h205 => ?_)
                      · exfalso; omega
                      · refine zx_iconst dL_acts_208 ?_
                        refine zx_goto (tgt := 268) dL_acts_209 (by decide) ?_
                        refine zx_iret rfl rfl dL_acts_268 ?_
                        rw [hQ]
                        refine ⟨congrArg (fun z : Int => (Sum.inl (some (zi z)) : Option zV ⊕ String)) ?_, ?_⟩
                        · first | rfl | assumption | omega
                        exact AP_e (aB_1 hu.2 (by omega)) (AP_d (zSame_rf _ _) hr189 (zSame_rf _ _) hz189)
                  · refine zy_csHR [zf 9 0, zi (y % 5), zi (1 + (x % 30)), zi (aV mk (y % 5) z), zi (1 + ((x + z) % 9))] (sL_does_addF  hfl hz hB hW (HN_j hN (zSame_rf _ _)) (HBA_j hA (zSame_rf _ _)) (by first | assumption | omega) (by first | assumption | omega) (by first | assumption | omega) (by first | assumption | omega)) dL_acts_189 cw_RL_231 okL_does rfl (Nat.le_of_ble_eq_true rfl) ⟨Nat.le_of_ble_eq_true rfl, Nat.le_of_ble_eq_true rfl, Nat.le_of_ble_eq_true rfl, Nat.le_of_ble_eq_true rfl⟩ (fun τ189 hr189 => ?_)
                    have hz189 : zOK τ189 := hr189.1
                    refine zy_istore [zf 9 0, zi mk, zi u, zi x, zi y, zi z, zi (D 12 0), zi 0, zi (y % 5), zi (aV mk (y % 5) z), zi (-103), zu, zu, zu] dL_acts_192 (Nat.le_of_ble_eq_true rfl) (Nat.le_of_ble_eq_true rfl) rfl rfl ?_
                    refine zx_iload dL_acts_194 rfl ?_
                    refine zx_bipush dL_acts_196 rfl ?_
                    refine zx_icmp_ne (tgt := 216) (by first | exact hz189 _ _ | assumption | exact zr_b _ | exact zcmp_r _ _ | exact hzD _ _ | exact zr3 (tS_b hW _) | exact zr3 (lsc_b hW _ _) | exact zr3 (sc_b hW _ _) | exact rkP_zr hW _ | exact scA_zr hW _ _ | exact zr3 (cW_b hW) | exact zr3 (wS_b hW) | exact zr3 (wS_b hWn) | (unfold zr at *; omega)) (by first | exact hz189 _ _ | assumption | exact zr_b _ | exact zcmp_r _ _ | exact hzD _ _ | exact zr3 (tS_b hW _) | exact zr3 (lsc_b hW _ _) | exact zr3 (sc_b hW _ _) | exact rkP_zr hW _ | exact scA_zr hW _ _ | exact zr3 (cW_b hW) | exact zr3 (wS_b hW) | exact zr3 (wS_b hWn) | (unfold zr at *; omega)) dL_acts_198 (by decide) (fun h198 => ?_) (fun h198 => ?_)
                    · exfalso; omega
                    · refine zx_iload dL_acts_201 rfl ?_
                      refine zx_bipush dL_acts_203 rfl ?_
                      refine zx_icmp_ne (tgt := 212) (by first | exact hz189 _ _ | assumption | exact zr_b _ | exact zcmp_r _ _ | exact hzD _ _ | exact zr3 (tS_b hW _) | exact zr3 (lsc_b hW _ _) | exact zr3 (sc_b hW _ _) | exact rkP_zr hW _ | exact scA_zr hW _ _ | exact zr3 (cW_b hW) | exact zr3 (wS_b hW) | exact zr3 (wS_b hWn) | (unfold zr at *; omega)) (by first | exact hz189 _ _ | assumption | exact zr_b _ | exact zcmp_r _ _ | exact hzD _ _ | exact zr3 (tS_b hW _) | exact zr3 (lsc_b hW _ _) | exact zr3 (sc_b hW _ _) | exact rkP_zr hW _ | exact scA_zr hW _ _ | exact zr3 (cW_b hW) | exact zr3 (wS_b hW) | exact zr3 (wS_b hWn) | (unfold zr at *; omega)) dL_acts_205 (by decide) (fun h205 => ?_) (fun h205 => ?_)
                      · exact absurd h205 (by decide)
                      · refine zx_iconst dL_acts_208 ?_
                        refine zx_goto (tgt := 268) dL_acts_209 (by decide) ?_
                        refine zx_iret rfl rfl dL_acts_268 ?_
                        rw [hQ]
                        refine ⟨congrArg (fun z : Int => (Sum.inl (some (zi z)) : Option zV ⊕ String)) ?_, ?_⟩
                        · first | rfl | assumption | omega
                        exact AP_e (aB_0 hu.2 (by omega)) (AP_f hW (zSame_rf _ _) hr189 (zSame_rf _ _) hz189 rfl)
              · refine zx_iload dL_acts_138 rfl ?_
                refine zx_iloadN dL_acts_140 rfl rfl ?_
                refine zx_irem (by omega) (by omega) (by omega) (by omega) dL_acts_141 ?_
                refine zy_top (b := aV mk (y % 5) z) ((by unfold aV; rw [if_neg h109, if_neg h122, if_pos h135])) ?_
                refine zx_goto (tgt := 167) dL_acts_142 (by decide) ?_
                refine zy_istore [zf 9 0, zi mk, zi u, zi x, zi y, zi z, zi (D 12 0), zi 0, zi (y % 5), zi (aV mk (y % 5) z), zu, zu, zu, zu] dL_acts_167 (Nat.le_of_ble_eq_true rfl) (Nat.le_of_ble_eq_true rfl) rfl rfl ?_
                refine zx_aloadN dL_acts_169 rfl rfl ?_
                refine zx_iload dL_acts_170 rfl ?_
                refine zx_iconst dL_acts_172 ?_
                refine zx_iloadN dL_acts_173 rfl rfl ?_
                refine zx_bipush dL_acts_174 rfl ?_
                refine zx_irem (by omega) (by omega) (by omega) (by omega) dL_acts_176 ?_
                refine zx_iadd dL_acts_177 ?_
                refine zx_iload dL_acts_178 rfl ?_
                refine zx_iconst dL_acts_180 ?_
                refine zx_iloadN dL_acts_181 rfl rfl ?_
                refine zx_iload dL_acts_182 rfl ?_
                refine zx_iadd dL_acts_184 ?_
                refine zx_bipush dL_acts_185 rfl ?_
                refine zx_irem (by omega) (by omega) (by omega) (by omega) dL_acts_187 ?_
                refine zx_iadd dL_acts_188 ?_
                by_cases hb189 : D 12 0 < 40
                · refine zy_csHR [zf 9 0, zi (y % 5), zi (1 + (x % 30)), zi (aV mk (y % 5) z), zi (1 + ((x + z) % 9))] (sL_does_add  hfl hz hB hW (HN_j hN (zSame_rf _ _)) (HBA_j hA (zSame_rf _ _)) (by first | assumption | omega) (by first | assumption | omega) (by first | assumption | omega) (by first | assumption | omega)) dL_acts_189 cw_RL_231 okL_does rfl (Nat.le_of_ble_eq_true rfl) ⟨Nat.le_of_ble_eq_true rfl, Nat.le_of_ble_eq_true rfl, Nat.le_of_ble_eq_true rfl, Nat.le_of_ble_eq_true rfl⟩ (fun τ189 hr189 => ?_)
                  have hz189 : zOK τ189 := hr189.1
                  have hl := hr189.2.2.2.2.2.2
                  have hWn := hr189.2.2.2.2.2.1
                  have hzDn := hzDof (rfl : bK τ189 = bK τ189) hz189
                  obtain ⟨e12, e14, e15, e17, e18⟩ := ad_post hl (by omega)
                  refine zy_istore [zf 9 0, zi mk, zi u, zi x, zi y, zi z, zi (D 12 0), zi 0, zi (y % 5), zi (aV mk (y % 5) z), zi (D 12 0), zu, zu, zu] dL_acts_192 (Nat.le_of_ble_eq_true rfl) (Nat.le_of_ble_eq_true rfl) rfl rfl ?_
                  refine zx_iload dL_acts_194 rfl ?_
                  refine zx_bipush dL_acts_196 rfl ?_
                  refine zx_icmp_ne (tgt := 216) (by first | exact hz189 _ _ | assumption | exact zr_b _ | exact zcmp_r _ _ | exact hzD _ _ | exact zr3 (tS_b hW _) | exact zr3 (lsc_b hW _ _) | exact zr3 (sc_b hW _ _) | exact rkP_zr hW _ | exact scA_zr hW _ _ | exact zr3 (cW_b hW) | exact zr3 (wS_b hW) | exact zr3 (wS_b hWn) | (unfold zr at *; omega)) (by first | exact hz189 _ _ | assumption | exact zr_b _ | exact zcmp_r _ _ | exact hzD _ _ | exact zr3 (tS_b hW _) | exact zr3 (lsc_b hW _ _) | exact zr3 (sc_b hW _ _) | exact rkP_zr hW _ | exact scA_zr hW _ _ | exact zr3 (cW_b hW) | exact zr3 (wS_b hW) | exact zr3 (wS_b hWn) | (unfold zr at *; omega)) dL_acts_198 (by decide) (fun h198 => ?_) (fun h198 => ?_)
                  · refine zx_iload dL_acts_216 rfl ?_
                    refine zx_iload dL_acts_218 rfl ?_
                    refine zx_icmp_ne (tgt := 267) (by first | exact hz189 _ _ | assumption | exact zr_b _ | exact zcmp_r _ _ | exact hzD _ _ | exact zr3 (tS_b hW _) | exact zr3 (lsc_b hW _ _) | exact zr3 (sc_b hW _ _) | exact rkP_zr hW _ | exact scA_zr hW _ _ | exact zr3 (cW_b hW) | exact zr3 (wS_b hW) | exact zr3 (wS_b hWn) | (unfold zr at *; omega)) (by first | exact hz189 _ _ | assumption | exact zr_b _ | exact zcmp_r _ _ | exact hzD _ _ | exact zr3 (tS_b hW _) | exact zr3 (lsc_b hW _ _) | exact zr3 (sc_b hW _ _) | exact rkP_zr hW _ | exact scA_zr hW _ _ | exact zr3 (cW_b hW) | exact zr3 (wS_b hW) | exact zr3 (wS_b hWn) | (unfold zr at *; omega)) dL_acts_220 (by decide) (fun h220 => ?_) (fun h220 => ?_)
                    · exfalso; omega
                    · refine zx_aloadN dL_acts_223 rfl rfl ?_
                      refine zx_iload dL_acts_224 rfl ?_
                      refine zy_cv [zi (D 12 0)] (fX9_isRead  hfl hz189 rfl hr189.2.2.2.2.2.1 (by first | exact hz189 _ _ | assumption | exact zr_b _ | exact zcmp_r _ _ | exact hzD _ _ | exact zr3 (tS_b hW _) | exact zr3 (lsc_b hW _ _) | exact zr3 (sc_b hW _ _) | exact rkP_zr hW _ | exact scA_zr hW _ _ | exact zr3 (cW_b hW) | exact zr3 (wS_b hW) | exact zr3 (wS_b hWn) | (unfold zr at *; omega)) (by first | assumption | omega)) dL_acts_226 (by decide) rfl cw_RL_122 okX9_isRead rfl (Nat.le_of_ble_eq_true rfl) ⟨Nat.le_of_ble_eq_true rfl, Nat.le_of_ble_eq_true rfl, Nat.le_of_ble_eq_true rfl, Nat.le_of_ble_eq_true rfl⟩ ?_
                      refine zx_if_ne (tgt := 267) (by first | exact hz189 _ _ | assumption | exact zr_b _ | exact zcmp_r _ _ | exact hzD _ _ | exact zr3 (tS_b hW _) | exact zr3 (lsc_b hW _ _) | exact zr3 (sc_b hW _ _) | exact rkP_zr hW _ | exact scA_zr hW _ _ | exact zr3 (cW_b hW) | exact zr3 (wS_b hW) | exact zr3 (wS_b hWn) | (unfold zr at *; omega)) dL_acts_229 (by decide) (fun h229 => ?_) (fun h229 => ?_)
                      · exfalso; omega
                      · refine zx_aloadN dL_acts_232 rfl rfl ?_
                        refine zx_iload dL_acts_233 rfl ?_
                        refine zy_cv [zi (D 12 0)] (fX9_isAside  hfl hz189 rfl hr189.2.2.2.2.2.1 (by first | exact hz189 _ _ | assumption | exact zr_b _ | exact zcmp_r _ _ | exact hzD _ _ | exact zr3 (tS_b hW _) | exact zr3 (lsc_b hW _ _) | exact zr3 (sc_b hW _ _) | exact rkP_zr hW _ | exact scA_zr hW _ _ | exact zr3 (cW_b hW) | exact zr3 (wS_b hW) | exact zr3 (wS_b hWn) | (unfold zr at *; omega)) (by first | assumption | omega)) dL_acts_235 (by decide) rfl cw_RL_128 okX9_isAside rfl (Nat.le_of_ble_eq_true rfl) ⟨Nat.le_of_ble_eq_true rfl, Nat.le_of_ble_eq_true rfl, Nat.le_of_ble_eq_true rfl, Nat.le_of_ble_eq_true rfl⟩ ?_
                        refine zx_if_ne (tgt := 267) (by first | exact hz189 _ _ | assumption | exact zr_b _ | exact zcmp_r _ _ | exact hzD _ _ | exact zr3 (tS_b hW _) | exact zr3 (lsc_b hW _ _) | exact zr3 (sc_b hW _ _) | exact rkP_zr hW _ | exact scA_zr hW _ _ | exact zr3 (cW_b hW) | exact zr3 (wS_b hW) | exact zr3 (wS_b hWn) | (unfold zr at *; omega)) dL_acts_238 (by decide) (fun h238 => ?_) (fun h238 => ?_)
                        · exfalso; omega
                        · refine zx_aloadN dL_acts_241 rfl rfl ?_
                          refine zx_iload dL_acts_242 rfl ?_
                          refine zy_cv [zi (D 12 0)] (fX9_kindOf  hfl hz189 rfl hr189.2.2.2.2.2.1 (by first | exact hz189 _ _ | assumption | exact zr_b _ | exact zcmp_r _ _ | exact hzD _ _ | exact zr3 (tS_b hW _) | exact zr3 (lsc_b hW _ _) | exact zr3 (sc_b hW _ _) | exact rkP_zr hW _ | exact scA_zr hW _ _ | exact zr3 (cW_b hW) | exact zr3 (wS_b hW) | exact zr3 (wS_b hWn) | (unfold zr at *; omega)) (by first | assumption | omega)) dL_acts_244 (by decide) rfl cw_RL_109 okX9_kindOf rfl (Nat.le_of_ble_eq_true rfl) ⟨Nat.le_of_ble_eq_true rfl, Nat.le_of_ble_eq_true rfl, Nat.le_of_ble_eq_true rfl, Nat.le_of_ble_eq_true rfl⟩ ?_
                          refine zx_iload dL_acts_247 rfl ?_
                          refine zx_icmp_ne (tgt := 267) (by first | exact hz189 _ _ | assumption | exact zr_b _ | exact zcmp_r _ _ | exact hzD _ _ | exact zr3 (tS_b hW _) | exact zr3 (lsc_b hW _ _) | exact zr3 (sc_b hW _ _) | exact rkP_zr hW _ | exact scA_zr hW _ _ | exact zr3 (cW_b hW) | exact zr3 (wS_b hW) | exact zr3 (wS_b hWn) | (unfold zr at *; omega)) (by first | exact hz189 _ _ | assumption | exact zr_b _ | exact zcmp_r _ _ | exact hzD _ _ | exact zr3 (tS_b hW _) | exact zr3 (lsc_b hW _ _) | exact zr3 (sc_b hW _ _) | exact rkP_zr hW _ | exact scA_zr hW _ _ | exact zr3 (cW_b hW) | exact zr3 (wS_b hW) | exact zr3 (wS_b hWn) | (unfold zr at *; omega)) dL_acts_249 (by decide) (fun h249 => ?_) (fun h249 => ?_)
                          · exfalso; omega
                          · refine zx_aloadN dL_acts_252 rfl rfl ?_
                            refine zx_iload dL_acts_253 rfl ?_
                            refine zy_cv [zi (D 12 0)] (fX9_valueOf  hfl hz189 rfl hr189.2.2.2.2.2.1 (by first | exact hz189 _ _ | assumption | exact zr_b _ | exact zcmp_r _ _ | exact hzD _ _ | exact zr3 (tS_b hW _) | exact zr3 (lsc_b hW _ _) | exact zr3 (sc_b hW _ _) | exact rkP_zr hW _ | exact scA_zr hW _ _ | exact zr3 (cW_b hW) | exact zr3 (wS_b hW) | exact zr3 (wS_b hWn) | (unfold zr at *; omega)) (by first | assumption | omega)) dL_acts_255 (by decide) rfl cw_RL_114 okX9_valueOf rfl (Nat.le_of_ble_eq_true rfl) ⟨Nat.le_of_ble_eq_true rfl, Nat.le_of_ble_eq_true rfl, Nat.le_of_ble_eq_true rfl, Nat.le_of_ble_eq_true rfl⟩ ?_
                            refine zx_iload dL_acts_258 rfl ?_
                            refine zx_icmp_ne (tgt := 267) (by first | exact hz189 _ _ | assumption | exact zr_b _ | exact zcmp_r _ _ | exact hzD _ _ | exact zr3 (tS_b hW _) | exact zr3 (lsc_b hW _ _) | exact zr3 (sc_b hW _ _) | exact rkP_zr hW _ | exact scA_zr hW _ _ | exact zr3 (cW_b hW) | exact zr3 (wS_b hW) | exact zr3 (wS_b hWn) | (unfold zr at *; omega)) (by first | exact hz189 _ _ | assumption | exact zr_b _ | exact zcmp_r _ _ | exact hzD _ _ | exact zr3 (tS_b hW _) | exact zr3 (lsc_b hW _ _) | exact zr3 (sc_b hW _ _) | exact rkP_zr hW _ | exact scA_zr hW _ _ | exact zr3 (cW_b hW) | exact zr3 (wS_b hW) | exact zr3 (wS_b hWn) | (unfold zr at *; omega)) dL_acts_260 (by decide) (fun h260 => ?_) (fun h260 => ?_)
                            · exfalso; omega
                            · refine zx_iconst dL_acts_263 ?_
                              refine zx_goto (tgt := 268) dL_acts_264 (by decide) ?_
                              refine zx_iret rfl rfl dL_acts_268 ?_
                              rw [hQ]
                              refine ⟨congrArg (fun z : Int => (Sum.inl (some (zi z)) : Option zV ⊕ String)) ?_, ?_⟩
                              · first | rfl | assumption | omega
                              exact AP_e (aB_1 hu.2 (by omega)) (AP_d (zSame_rf _ _) hr189 (zSame_rf _ _) hz189)
                  · refine zx_iload dL_acts_201 rfl ?_
                    refine zx_bipush dL_acts_203 rfl ?_
                    refine zx_icmp_ne (tgt := 212) (by first | exact hz189 _ _ | assumption | exact zr_b _ | exact zcmp_r _ _ | exact hzD _ _ | exact zr3 (tS_b hW _) | exact zr3 (lsc_b hW _ _) | exact zr3 (sc_b hW _ _) | exact rkP_zr hW _ | exact scA_zr hW _ _ | exact zr3 (cW_b hW) | exact zr3 (wS_b hW) | exact zr3 (wS_b hWn) | (unfold zr at *; omega)) (by first | exact hz189 _ _ | assumption | exact zr_b _ | exact zcmp_r _ _ | exact hzD _ _ | exact zr3 (tS_b hW _) | exact zr3 (lsc_b hW _ _) | exact zr3 (sc_b hW _ _) | exact rkP_zr hW _ | exact scA_zr hW _ _ | exact zr3 (cW_b hW) | exact zr3 (wS_b hW) | exact zr3 (wS_b hWn) | (unfold zr at *; omega)) dL_acts_205 (by decide) (fun h205 => ?_) (fun h205 => ?_)
                    · exfalso; omega
                    · refine zx_iconst dL_acts_208 ?_
                      refine zx_goto (tgt := 268) dL_acts_209 (by decide) ?_
                      refine zx_iret rfl rfl dL_acts_268 ?_
                      rw [hQ]
                      refine ⟨congrArg (fun z : Int => (Sum.inl (some (zi z)) : Option zV ⊕ String)) ?_, ?_⟩
                      · first | rfl | assumption | omega
                      exact AP_e (aB_1 hu.2 (by omega)) (AP_d (zSame_rf _ _) hr189 (zSame_rf _ _) hz189)
                · refine zy_csHR [zf 9 0, zi (y % 5), zi (1 + (x % 30)), zi (aV mk (y % 5) z), zi (1 + ((x + z) % 9))] (sL_does_addF  hfl hz hB hW (HN_j hN (zSame_rf _ _)) (HBA_j hA (zSame_rf _ _)) (by first | assumption | omega) (by first | assumption | omega) (by first | assumption | omega) (by first | assumption | omega)) dL_acts_189 cw_RL_231 okL_does rfl (Nat.le_of_ble_eq_true rfl) ⟨Nat.le_of_ble_eq_true rfl, Nat.le_of_ble_eq_true rfl, Nat.le_of_ble_eq_true rfl, Nat.le_of_ble_eq_true rfl⟩ (fun τ189 hr189 => ?_)
                  have hz189 : zOK τ189 := hr189.1
                  refine zy_istore [zf 9 0, zi mk, zi u, zi x, zi y, zi z, zi (D 12 0), zi 0, zi (y % 5), zi (aV mk (y % 5) z), zi (-103), zu, zu, zu] dL_acts_192 (Nat.le_of_ble_eq_true rfl) (Nat.le_of_ble_eq_true rfl) rfl rfl ?_
                  refine zx_iload dL_acts_194 rfl ?_
                  refine zx_bipush dL_acts_196 rfl ?_
                  refine zx_icmp_ne (tgt := 216) (by first | exact hz189 _ _ | assumption | exact zr_b _ | exact zcmp_r _ _ | exact hzD _ _ | exact zr3 (tS_b hW _) | exact zr3 (lsc_b hW _ _) | exact zr3 (sc_b hW _ _) | exact rkP_zr hW _ | exact scA_zr hW _ _ | exact zr3 (cW_b hW) | exact zr3 (wS_b hW) | exact zr3 (wS_b hWn) | (unfold zr at *; omega)) (by first | exact hz189 _ _ | assumption | exact zr_b _ | exact zcmp_r _ _ | exact hzD _ _ | exact zr3 (tS_b hW _) | exact zr3 (lsc_b hW _ _) | exact zr3 (sc_b hW _ _) | exact rkP_zr hW _ | exact scA_zr hW _ _ | exact zr3 (cW_b hW) | exact zr3 (wS_b hW) | exact zr3 (wS_b hWn) | (unfold zr at *; omega)) dL_acts_198 (by decide) (fun h198 => ?_) (fun h198 => ?_)
                  · exfalso; omega
                  · refine zx_iload dL_acts_201 rfl ?_
                    refine zx_bipush dL_acts_203 rfl ?_
                    refine zx_icmp_ne (tgt := 212) (by first | exact hz189 _ _ | assumption | exact zr_b _ | exact zcmp_r _ _ | exact hzD _ _ | exact zr3 (tS_b hW _) | exact zr3 (lsc_b hW _ _) | exact zr3 (sc_b hW _ _) | exact rkP_zr hW _ | exact scA_zr hW _ _ | exact zr3 (cW_b hW) | exact zr3 (wS_b hW) | exact zr3 (wS_b hWn) | (unfold zr at *; omega)) (by first | exact hz189 _ _ | assumption | exact zr_b _ | exact zcmp_r _ _ | exact hzD _ _ | exact zr3 (tS_b hW _) | exact zr3 (lsc_b hW _ _) | exact zr3 (sc_b hW _ _) | exact rkP_zr hW _ | exact scA_zr hW _ _ | exact zr3 (cW_b hW) | exact zr3 (wS_b hW) | exact zr3 (wS_b hWn) | (unfold zr at *; omega)) dL_acts_205 (by decide) (fun h205 => ?_) (fun h205 => ?_)
                    · exact absurd h205 (by decide)
                    · refine zx_iconst dL_acts_208 ?_
                      refine zx_goto (tgt := 268) dL_acts_209 (by decide) ?_
                      refine zx_iret rfl rfl dL_acts_268 ?_
                      rw [hQ]
                      refine ⟨congrArg (fun z : Int => (Sum.inl (some (zi z)) : Option zV ⊕ String)) ?_, ?_⟩
                      · first | rfl | assumption | omega
                      exact AP_e (aB_0 hu.2 (by omega)) (AP_f hW (zSame_rf _ _) hr189 (zSame_rf _ _) hz189 rfl)
            · refine zx_iload dL_acts_125 rfl ?_
              refine zx_iconst dL_acts_127 ?_
              refine zx_irem (by omega) (by omega) (by omega) (by omega) dL_acts_128 ?_
              refine zy_top (b := aV mk (y % 5) z) ((by unfold aV; rw [if_neg h109, if_pos h122])) ?_
              refine zx_goto (tgt := 167) dL_acts_129 (by decide) ?_
              refine zy_istore [zf 9 0, zi mk, zi u, zi x, zi y, zi z, zi (D 12 0), zi 0, zi (y % 5), zi (aV mk (y % 5) z), zu, zu, zu, zu] dL_acts_167 (Nat.le_of_ble_eq_true rfl) (Nat.le_of_ble_eq_true rfl) rfl rfl ?_
              refine zx_aloadN dL_acts_169 rfl rfl ?_
              refine zx_iload dL_acts_170 rfl ?_
              refine zx_iconst dL_acts_172 ?_
              refine zx_iloadN dL_acts_173 rfl rfl ?_
              refine zx_bipush dL_acts_174 rfl ?_
              refine zx_irem (by omega) (by omega) (by omega) (by omega) dL_acts_176 ?_
              refine zx_iadd dL_acts_177 ?_
              refine zx_iload dL_acts_178 rfl ?_
              refine zx_iconst dL_acts_180 ?_
              refine zx_iloadN dL_acts_181 rfl rfl ?_
              refine zx_iload dL_acts_182 rfl ?_
              refine zx_iadd dL_acts_184 ?_
              refine zx_bipush dL_acts_185 rfl ?_
              refine zx_irem (by omega) (by omega) (by omega) (by omega) dL_acts_187 ?_
              refine zx_iadd dL_acts_188 ?_
              by_cases hb189 : D 12 0 < 40
              · refine zy_csHR [zf 9 0, zi (y % 5), zi (1 + (x % 30)), zi (aV mk (y % 5) z), zi (1 + ((x + z) % 9))] (sL_does_add  hfl hz hB hW (HN_j hN (zSame_rf _ _)) (HBA_j hA (zSame_rf _ _)) (by first | assumption | omega) (by first | assumption | omega) (by first | assumption | omega) (by first | assumption | omega)) dL_acts_189 cw_RL_231 okL_does rfl (Nat.le_of_ble_eq_true rfl) ⟨Nat.le_of_ble_eq_true rfl, Nat.le_of_ble_eq_true rfl, Nat.le_of_ble_eq_true rfl, Nat.le_of_ble_eq_true rfl⟩ (fun τ189 hr189 => ?_)
                have hz189 : zOK τ189 := hr189.1
                have hl := hr189.2.2.2.2.2.2
                have hWn := hr189.2.2.2.2.2.1
                have hzDn := hzDof (rfl : bK τ189 = bK τ189) hz189
                obtain ⟨e12, e14, e15, e17, e18⟩ := ad_post hl (by omega)
                refine zy_istore [zf 9 0, zi mk, zi u, zi x, zi y, zi z, zi (D 12 0), zi 0, zi (y % 5), zi (aV mk (y % 5) z), zi (D 12 0), zu, zu, zu] dL_acts_192 (Nat.le_of_ble_eq_true rfl) (Nat.le_of_ble_eq_true rfl) rfl rfl ?_
                refine zx_iload dL_acts_194 rfl ?_
                refine zx_bipush dL_acts_196 rfl ?_
                refine zx_icmp_ne (tgt := 216) (by first | exact hz189 _ _ | assumption | exact zr_b _ | exact zcmp_r _ _ | exact hzD _ _ | exact zr3 (tS_b hW _) | exact zr3 (lsc_b hW _ _) | exact zr3 (sc_b hW _ _) | exact rkP_zr hW _ | exact scA_zr hW _ _ | exact zr3 (cW_b hW) | exact zr3 (wS_b hW) | exact zr3 (wS_b hWn) | (unfold zr at *; omega)) (by first | exact hz189 _ _ | assumption | exact zr_b _ | exact zcmp_r _ _ | exact hzD _ _ | exact zr3 (tS_b hW _) | exact zr3 (lsc_b hW _ _) | exact zr3 (sc_b hW _ _) | exact rkP_zr hW _ | exact scA_zr hW _ _ | exact zr3 (cW_b hW) | exact zr3 (wS_b hW) | exact zr3 (wS_b hWn) | (unfold zr at *; omega)) dL_acts_198 (by decide) (fun h198 => ?_) (fun h198 => ?_)
                · refine zx_iload dL_acts_216 rfl ?_
                  refine zx_iload dL_acts_218 rfl ?_
                  refine zx_icmp_ne (tgt := 267) (by first | exact hz189 _ _ | assumption | exact zr_b _ | exact zcmp_r _ _ | exact hzD _ _ | exact zr3 (tS_b hW _) | exact zr3 (lsc_b hW _ _) | exact zr3 (sc_b hW _ _) | exact rkP_zr hW _ | exact scA_zr hW _ _ | exact zr3 (cW_b hW) | exact zr3 (wS_b hW) | exact zr3 (wS_b hWn) | (unfold zr at *; omega)) (by first | exact hz189 _ _ | assumption | exact zr_b _ | exact zcmp_r _ _ | exact hzD _ _ | exact zr3 (tS_b hW _) | exact zr3 (lsc_b hW _ _) | exact zr3 (sc_b hW _ _) | exact rkP_zr hW _ | exact scA_zr hW _ _ | exact zr3 (cW_b hW) | exact zr3 (wS_b hW) | exact zr3 (wS_b hWn) | (unfold zr at *; omega)) dL_acts_220 (by decide) (fun h220 => ?_) (fun h220 => ?_)
                  · exfalso; omega
                  · refine zx_aloadN dL_acts_223 rfl rfl ?_
                    refine zx_iload dL_acts_224 rfl ?_
                    refine zy_cv [zi (D 12 0)] (fX9_isRead  hfl hz189 rfl hr189.2.2.2.2.2.1 (by first | exact hz189 _ _ | assumption | exact zr_b _ | exact zcmp_r _ _ | exact hzD _ _ | exact zr3 (tS_b hW _) | exact zr3 (lsc_b hW _ _) | exact zr3 (sc_b hW _ _) | exact rkP_zr hW _ | exact scA_zr hW _ _ | exact zr3 (cW_b hW) | exact zr3 (wS_b hW) | exact zr3 (wS_b hWn) | (unfold zr at *; omega)) (by first | assumption | omega)) dL_acts_226 (by decide) rfl cw_RL_122 okX9_isRead rfl (Nat.le_of_ble_eq_true rfl) ⟨Nat.le_of_ble_eq_true rfl, Nat.le_of_ble_eq_true rfl, Nat.le_of_ble_eq_true rfl, Nat.le_of_ble_eq_true rfl⟩ ?_
                    refine zx_if_ne (tgt := 267) (by first | exact hz189 _ _ | assumption | exact zr_b _ | exact zcmp_r _ _ | exact hzD _ _ | exact zr3 (tS_b hW _) | exact zr3 (lsc_b hW _ _) | exact zr3 (sc_b hW _ _) | exact rkP_zr hW _ | exact scA_zr hW _ _ | exact zr3 (cW_b hW) | exact zr3 (wS_b hW) | exact zr3 (wS_b hWn) | (unfold zr at *; omega)) dL_acts_229 (by decide) (fun h229 => ?_) (fun h229 => ?_)
                    · exfalso; omega
                    · refine zx_aloadN dL_acts_232 rfl rfl ?_
                      refine zx_iload dL_acts_233 rfl ?_
                      refine zy_cv [zi (D 12 0)] (fX9_isAside  hfl hz189 rfl hr189.2.2.2.2.2.1 (by first | exact hz189 _ _ | assumption | exact zr_b _ | exact zcmp_r _ _ | exact hzD _ _ | exact zr3 (tS_b hW _) | exact zr3 (lsc_b hW _ _) | exact zr3 (sc_b hW _ _) | exact rkP_zr hW _ | exact scA_zr hW _ _ | exact zr3 (cW_b hW) | exact zr3 (wS_b hW) | exact zr3 (wS_b hWn) | (unfold zr at *; omega)) (by first | assumption | omega)) dL_acts_235 (by decide) rfl cw_RL_128 okX9_isAside rfl (Nat.le_of_ble_eq_true rfl) ⟨Nat.le_of_ble_eq_true rfl, Nat.le_of_ble_eq_true rfl, Nat.le_of_ble_eq_true rfl, Nat.le_of_ble_eq_true rfl⟩ ?_
                      refine zx_if_ne (tgt := 267) (by first | exact hz189 _ _ | assumption | exact zr_b _ | exact zcmp_r _ _ | exact hzD _ _ | exact zr3 (tS_b hW _) | exact zr3 (lsc_b hW _ _) | exact zr3 (sc_b hW _ _) | exact rkP_zr hW _ | exact scA_zr hW _ _ | exact zr3 (cW_b hW) | exact zr3 (wS_b hW) | exact zr3 (wS_b hWn) | (unfold zr at *; omega)) dL_acts_238 (by decide) (fun h238 => ?_) (fun h238 => ?_)
                      · exfalso; omega
                      · refine zx_aloadN dL_acts_241 rfl rfl ?_
                        refine zx_iload dL_acts_242 rfl ?_
                        refine zy_cv [zi (D 12 0)] (fX9_kindOf  hfl hz189 rfl hr189.2.2.2.2.2.1 (by first | exact hz189 _ _ | assumption | exact zr_b _ | exact zcmp_r _ _ | exact hzD _ _ | exact zr3 (tS_b hW _) | exact zr3 (lsc_b hW _ _) | exact zr3 (sc_b hW _ _) | exact rkP_zr hW _ | exact scA_zr hW _ _ | exact zr3 (cW_b hW) | exact zr3 (wS_b hW) | exact zr3 (wS_b hWn) | (unfold zr at *; omega)) (by first | assumption | omega)) dL_acts_244 (by decide) rfl cw_RL_109 okX9_kindOf rfl (Nat.le_of_ble_eq_true rfl) ⟨Nat.le_of_ble_eq_true rfl, Nat.le_of_ble_eq_true rfl, Nat.le_of_ble_eq_true rfl, Nat.le_of_ble_eq_true rfl⟩ ?_
                        refine zx_iload dL_acts_247 rfl ?_
                        refine zx_icmp_ne (tgt := 267) (by first | exact hz189 _ _ | assumption | exact zr_b _ | exact zcmp_r _ _ | exact hzD _ _ | exact zr3 (tS_b hW _) | exact zr3 (lsc_b hW _ _) | exact zr3 (sc_b hW _ _) | exact rkP_zr hW _ | exact scA_zr hW _ _ | exact zr3 (cW_b hW) | exact zr3 (wS_b hW) | exact zr3 (wS_b hWn) | (unfold zr at *; omega)) (by first | exact hz189 _ _ | assumption | exact zr_b _ | exact zcmp_r _ _ | exact hzD _ _ | exact zr3 (tS_b hW _) | exact zr3 (lsc_b hW _ _) | exact zr3 (sc_b hW _ _) | exact rkP_zr hW _ | exact scA_zr hW _ _ | exact zr3 (cW_b hW) | exact zr3 (wS_b hW) | exact zr3 (wS_b hWn) | (unfold zr at *; omega)) dL_acts_249 (by decide) (fun h249 => ?_) (fun h249 => ?_)
                        · exfalso; omega
                        · refine zx_aloadN dL_acts_252 rfl rfl ?_
                          refine zx_iload dL_acts_253 rfl ?_
                          refine zy_cv [zi (D 12 0)] (fX9_valueOf  hfl hz189 rfl hr189.2.2.2.2.2.1 (by first | exact hz189 _ _ | assumption | exact zr_b _ | exact zcmp_r _ _ | exact hzD _ _ | exact zr3 (tS_b hW _) | exact zr3 (lsc_b hW _ _) | exact zr3 (sc_b hW _ _) | exact rkP_zr hW _ | exact scA_zr hW _ _ | exact zr3 (cW_b hW) | exact zr3 (wS_b hW) | exact zr3 (wS_b hWn) | (unfold zr at *; omega)) (by first | assumption | omega)) dL_acts_255 (by decide) rfl cw_RL_114 okX9_valueOf rfl (Nat.le_of_ble_eq_true rfl) ⟨Nat.le_of_ble_eq_true rfl, Nat.le_of_ble_eq_true rfl, Nat.le_of_ble_eq_true rfl, Nat.le_of_ble_eq_true rfl⟩ ?_
                          refine zx_iload dL_acts_258 rfl ?_
                          refine zx_icmp_ne (tgt := 267) (by first | exact hz189 _ _ | assumption | exact zr_b _ | exact zcmp_r _ _ | exact hzD _ _ | exact zr3 (tS_b hW _) | exact zr3 (lsc_b hW _ _) | exact zr3 (sc_b hW _ _) | exact rkP_zr hW _ | exact scA_zr hW _ _ | exact zr3 (cW_b hW) | exact zr3 (wS_b hW) | exact zr3 (wS_b hWn) | (unfold zr at *; omega)) (by first | exact hz189 _ _ | assumption | exact zr_b _ | exact zcmp_r _ _ | exact hzD _ _ | exact zr3 (tS_b hW _) | exact zr3 (lsc_b hW _ _) | exact zr3 (sc_b hW _ _) | exact rkP_zr hW _ | exact scA_zr hW _ _ | exact zr3 (cW_b hW) | exact zr3 (wS_b hW) | exact zr3 (wS_b hWn) | (unfold zr at *; omega)) dL_acts_260 (by decide) (fun h260 => ?_) (fun h260 => ?_)
                          · exfalso; omega
                          · refine zx_iconst dL_acts_263 ?_
                            refine zx_goto (tgt := 268) dL_acts_264 (by decide) ?_
                            refine zx_iret rfl rfl dL_acts_268 ?_
                            rw [hQ]
                            refine ⟨congrArg (fun z : Int => (Sum.inl (some (zi z)) : Option zV ⊕ String)) ?_, ?_⟩
                            · first | rfl | assumption | omega
                            exact AP_e (aB_1 hu.2 (by omega)) (AP_d (zSame_rf _ _) hr189 (zSame_rf _ _) hz189)
                · refine zx_iload dL_acts_201 rfl ?_
                  refine zx_bipush dL_acts_203 rfl ?_
                  refine zx_icmp_ne (tgt := 212) (by first | exact hz189 _ _ | assumption | exact zr_b _ | exact zcmp_r _ _ | exact hzD _ _ | exact zr3 (tS_b hW _) | exact zr3 (lsc_b hW _ _) | exact zr3 (sc_b hW _ _) | exact rkP_zr hW _ | exact scA_zr hW _ _ | exact zr3 (cW_b hW) | exact zr3 (wS_b hW) | exact zr3 (wS_b hWn) | (unfold zr at *; omega)) (by first | exact hz189 _ _ | assumption | exact zr_b _ | exact zcmp_r _ _ | exact hzD _ _ | exact zr3 (tS_b hW _) | exact zr3 (lsc_b hW _ _) | exact zr3 (sc_b hW _ _) | exact rkP_zr hW _ | exact scA_zr hW _ _ | exact zr3 (cW_b hW) | exact zr3 (wS_b hW) | exact zr3 (wS_b hWn) | (unfold zr at *; omega)) dL_acts_205 (by decide) (fun h205 => ?_) (fun h205 => ?_)
                  · exfalso; omega
                  · refine zx_iconst dL_acts_208 ?_
                    refine zx_goto (tgt := 268) dL_acts_209 (by decide) ?_
                    refine zx_iret rfl rfl dL_acts_268 ?_
                    rw [hQ]
                    refine ⟨congrArg (fun z : Int => (Sum.inl (some (zi z)) : Option zV ⊕ String)) ?_, ?_⟩
                    · first | rfl | assumption | omega
                    exact AP_e (aB_1 hu.2 (by omega)) (AP_d (zSame_rf _ _) hr189 (zSame_rf _ _) hz189)
              · refine zy_csHR [zf 9 0, zi (y % 5), zi (1 + (x % 30)), zi (aV mk (y % 5) z), zi (1 + ((x + z) % 9))] (sL_does_addF  hfl hz hB hW (HN_j hN (zSame_rf _ _)) (HBA_j hA (zSame_rf _ _)) (by first | assumption | omega) (by first | assumption | omega) (by first | assumption | omega) (by first | assumption | omega)) dL_acts_189 cw_RL_231 okL_does rfl (Nat.le_of_ble_eq_true rfl) ⟨Nat.le_of_ble_eq_true rfl, Nat.le_of_ble_eq_true rfl, Nat.le_of_ble_eq_true rfl, Nat.le_of_ble_eq_true rfl⟩ (fun τ189 hr189 => ?_)
                have hz189 : zOK τ189 := hr189.1
                refine zy_istore [zf 9 0, zi mk, zi u, zi x, zi y, zi z, zi (D 12 0), zi 0, zi (y % 5), zi (aV mk (y % 5) z), zi (-103), zu, zu, zu] dL_acts_192 (Nat.le_of_ble_eq_true rfl) (Nat.le_of_ble_eq_true rfl) rfl rfl ?_
                refine zx_iload dL_acts_194 rfl ?_
                refine zx_bipush dL_acts_196 rfl ?_
                refine zx_icmp_ne (tgt := 216) (by first | exact hz189 _ _ | assumption | exact zr_b _ | exact zcmp_r _ _ | exact hzD _ _ | exact zr3 (tS_b hW _) | exact zr3 (lsc_b hW _ _) | exact zr3 (sc_b hW _ _) | exact rkP_zr hW _ | exact scA_zr hW _ _ | exact zr3 (cW_b hW) | exact zr3 (wS_b hW) | exact zr3 (wS_b hWn) | (unfold zr at *; omega)) (by first | exact hz189 _ _ | assumption | exact zr_b _ | exact zcmp_r _ _ | exact hzD _ _ | exact zr3 (tS_b hW _) | exact zr3 (lsc_b hW _ _) | exact zr3 (sc_b hW _ _) | exact rkP_zr hW _ | exact scA_zr hW _ _ | exact zr3 (cW_b hW) | exact zr3 (wS_b hW) | exact zr3 (wS_b hWn) | (unfold zr at *; omega)) dL_acts_198 (by decide) (fun h198 => ?_) (fun h198 => ?_)
                · exfalso; omega
                · refine zx_iload dL_acts_201 rfl ?_
                  refine zx_bipush dL_acts_203 rfl ?_
                  refine zx_icmp_ne (tgt := 212) (by first | exact hz189 _ _ | assumption | exact zr_b _ | exact zcmp_r _ _ | exact hzD _ _ | exact zr3 (tS_b hW _) | exact zr3 (lsc_b hW _ _) | exact zr3 (sc_b hW _ _) | exact rkP_zr hW _ | exact scA_zr hW _ _ | exact zr3 (cW_b hW) | exact zr3 (wS_b hW) | exact zr3 (wS_b hWn) | (unfold zr at *; omega)) (by first | exact hz189 _ _ | assumption | exact zr_b _ | exact zcmp_r _ _ | exact hzD _ _ | exact zr3 (tS_b hW _) | exact zr3 (lsc_b hW _ _) | exact zr3 (sc_b hW _ _) | exact rkP_zr hW _ | exact scA_zr hW _ _ | exact zr3 (cW_b hW) | exact zr3 (wS_b hW) | exact zr3 (wS_b hWn) | (unfold zr at *; omega)) dL_acts_205 (by decide) (fun h205 => ?_) (fun h205 => ?_)
                  · exact absurd h205 (by decide)
                  · refine zx_iconst dL_acts_208 ?_
                    refine zx_goto (tgt := 268) dL_acts_209 (by decide) ?_
                    refine zx_iret rfl rfl dL_acts_268 ?_
                    rw [hQ]
                    refine ⟨congrArg (fun z : Int => (Sum.inl (some (zi z)) : Option zV ⊕ String)) ?_, ?_⟩
                    · first | rfl | assumption | omega
                    exact AP_e (aB_0 hu.2 (by omega)) (AP_f hW (zSame_rf _ _) hr189 (zSame_rf _ _) hz189 rfl)
          · refine zx_iload dL_acts_112 rfl ?_
            refine zx_iconst dL_acts_114 ?_
            refine zx_irem (by omega) (by omega) (by omega) (by omega) dL_acts_115 ?_
            refine zy_top (b := aV mk (y % 5) z) ((by unfold aV; rw [if_pos h109])) ?_
            refine zx_goto (tgt := 167) dL_acts_116 (by decide) ?_
            refine zy_istore [zf 9 0, zi mk, zi u, zi x, zi y, zi z, zi (D 12 0), zi 0, zi (y % 5), zi (aV mk (y % 5) z), zu, zu, zu, zu] dL_acts_167 (Nat.le_of_ble_eq_true rfl) (Nat.le_of_ble_eq_true rfl) rfl rfl ?_
            refine zx_aloadN dL_acts_169 rfl rfl ?_
            refine zx_iload dL_acts_170 rfl ?_
            refine zx_iconst dL_acts_172 ?_
            refine zx_iloadN dL_acts_173 rfl rfl ?_
            refine zx_bipush dL_acts_174 rfl ?_
            refine zx_irem (by omega) (by omega) (by omega) (by omega) dL_acts_176 ?_
            refine zx_iadd dL_acts_177 ?_
            refine zx_iload dL_acts_178 rfl ?_
            refine zx_iconst dL_acts_180 ?_
            refine zx_iloadN dL_acts_181 rfl rfl ?_
            refine zx_iload dL_acts_182 rfl ?_
            refine zx_iadd dL_acts_184 ?_
            refine zx_bipush dL_acts_185 rfl ?_
            refine zx_irem (by omega) (by omega) (by omega) (by omega) dL_acts_187 ?_
            refine zx_iadd dL_acts_188 ?_
            by_cases hb189 : D 12 0 < 40
            · refine zy_csHR [zf 9 0, zi (y % 5), zi (1 + (x % 30)), zi (aV mk (y % 5) z), zi (1 + ((x + z) % 9))] (sL_does_add  hfl hz hB hW (HN_j hN (zSame_rf _ _)) (HBA_j hA (zSame_rf _ _)) (by first | assumption | omega) (by first | assumption | omega) (by first | assumption | omega) (by first | assumption | omega)) dL_acts_189 cw_RL_231 okL_does rfl (Nat.le_of_ble_eq_true rfl) ⟨Nat.le_of_ble_eq_true rfl, Nat.le_of_ble_eq_true rfl, Nat.le_of_ble_eq_true rfl, Nat.le_of_ble_eq_true rfl⟩ (fun τ189 hr189 => ?_)
              have hz189 : zOK τ189 := hr189.1
              have hl := hr189.2.2.2.2.2.2
              have hWn := hr189.2.2.2.2.2.1
              have hzDn := hzDof (rfl : bK τ189 = bK τ189) hz189
              obtain ⟨e12, e14, e15, e17, e18⟩ := ad_post hl (by omega)
              refine zy_istore [zf 9 0, zi mk, zi u, zi x, zi y, zi z, zi (D 12 0), zi 0, zi (y % 5), zi (aV mk (y % 5) z), zi (D 12 0), zu, zu, zu] dL_acts_192 (Nat.le_of_ble_eq_true rfl) (Nat.le_of_ble_eq_true rfl) rfl rfl ?_
              refine zx_iload dL_acts_194 rfl ?_
              refine zx_bipush dL_acts_196 rfl ?_
              refine zx_icmp_ne (tgt := 216) (by first | exact hz189 _ _ | assumption | exact zr_b _ | exact zcmp_r _ _ | exact hzD _ _ | exact zr3 (tS_b hW _) | exact zr3 (lsc_b hW _ _) | exact zr3 (sc_b hW _ _) | exact rkP_zr hW _ | exact scA_zr hW _ _ | exact zr3 (cW_b hW) | exact zr3 (wS_b hW) | exact zr3 (wS_b hWn) | (unfold zr at *; omega)) (by first | exact hz189 _ _ | assumption | exact zr_b _ | exact zcmp_r _ _ | exact hzD _ _ | exact zr3 (tS_b hW _) | exact zr3 (lsc_b hW _ _) | exact zr3 (sc_b hW _ _) | exact rkP_zr hW _ | exact scA_zr hW _ _ | exact zr3 (cW_b hW) | exact zr3 (wS_b hW) | exact zr3 (wS_b hWn) | (unfold zr at *; omega)) dL_acts_198 (by decide) (fun h198 => ?_) (fun h198 => ?_)
              · refine zx_iload dL_acts_216 rfl ?_
                refine zx_iload dL_acts_218 rfl ?_
                refine zx_icmp_ne (tgt := 267) (by first | exact hz189 _ _ | assumption | exact zr_b _ | exact zcmp_r _ _ | exact hzD _ _ | exact zr3 (tS_b hW _) | exact zr3 (lsc_b hW _ _) | exact zr3 (sc_b hW _ _) | exact rkP_zr hW _ | exact scA_zr hW _ _ | exact zr3 (cW_b hW) | exact zr3 (wS_b hW) | exact zr3 (wS_b hWn) | (unfold zr at *; omega)) (by first | exact hz189 _ _ | assumption | exact zr_b _ | exact zcmp_r _ _ | exact hzD _ _ | exact zr3 (tS_b hW _) | exact zr3 (lsc_b hW _ _) | exact zr3 (sc_b hW _ _) | exact rkP_zr hW _ | exact scA_zr hW _ _ | exact zr3 (cW_b hW) | exact zr3 (wS_b hW) | exact zr3 (wS_b hWn) | (unfold zr at *; omega)) dL_acts_220 (by decide) (fun h220 => ?_) (fun h220 => ?_)
                · exfalso; omega
                · refine zx_aloadN dL_acts_223 rfl rfl ?_
                  refine zx_iload dL_acts_224 rfl ?_
                  refine zy_cv [zi (D 12 0)] (fX9_isRead  hfl hz189 rfl hr189.2.2.2.2.2.1 (by first | exact hz189 _ _ | assumption | exact zr_b _ | exact zcmp_r _ _ | exact hzD _ _ | exact zr3 (tS_b hW _) | exact zr3 (lsc_b hW _ _) | exact zr3 (sc_b hW _ _) | exact rkP_zr hW _ | exact scA_zr hW _ _ | exact zr3 (cW_b hW) | exact zr3 (wS_b hW) | exact zr3 (wS_b hWn) | (unfold zr at *; omega)) (by first | assumption | omega)) dL_acts_226 (by decide) rfl cw_RL_122 okX9_isRead rfl (Nat.le_of_ble_eq_true rfl) ⟨Nat.le_of_ble_eq_true rfl, Nat.le_of_ble_eq_true rfl, Nat.le_of_ble_eq_true rfl, Nat.le_of_ble_eq_true rfl⟩ ?_
                  refine zx_if_ne (tgt := 267) (by first | exact hz189 _ _ | assumption | exact zr_b _ | exact zcmp_r _ _ | exact hzD _ _ | exact zr3 (tS_b hW _) | exact zr3 (lsc_b hW _ _) | exact zr3 (sc_b hW _ _) | exact rkP_zr hW _ | exact scA_zr hW _ _ | exact zr3 (cW_b hW) | exact zr3 (wS_b hW) | exact zr3 (wS_b hWn) | (unfold zr at *; omega)) dL_acts_229 (by decide) (fun h229 => ?_) (fun h229 => ?_)
                  · exfalso; omega
                  · refine zx_aloadN dL_acts_232 rfl rfl ?_
                    refine zx_iload dL_acts_233 rfl ?_
                    refine zy_cv [zi (D 12 0)] (fX9_isAside  hfl hz189 rfl hr189.2.2.2.2.2.1 (by first | exact hz189 _ _ | assumption | exact zr_b _ | exact zcmp_r _ _ | exact hzD _ _ | exact zr3 (tS_b hW _) | exact zr3 (lsc_b hW _ _) | exact zr3 (sc_b hW _ _) | exact rkP_zr hW _ | exact scA_zr hW _ _ | exact zr3 (cW_b hW) | exact zr3 (wS_b hW) | exact zr3 (wS_b hWn) | (unfold zr at *; omega)) (by first | assumption | omega)) dL_acts_235 (by decide) rfl cw_RL_128 okX9_isAside rfl (Nat.le_of_ble_eq_true rfl) ⟨Nat.le_of_ble_eq_true rfl, Nat.le_of_ble_eq_true rfl, Nat.le_of_ble_eq_true rfl, Nat.le_of_ble_eq_true rfl⟩ ?_
                    refine zx_if_ne (tgt := 267) (by first | exact hz189 _ _ | assumption | exact zr_b _ | exact zcmp_r _ _ | exact hzD _ _ | exact zr3 (tS_b hW _) | exact zr3 (lsc_b hW _ _) | exact zr3 (sc_b hW _ _) | exact rkP_zr hW _ | exact scA_zr hW _ _ | exact zr3 (cW_b hW) | exact zr3 (wS_b hW) | exact zr3 (wS_b hWn) | (unfold zr at *; omega)) dL_acts_238 (by decide) (fun h238 => ?_) (fun h238 => ?_)
                    · exfalso; omega
                    · refine zx_aloadN dL_acts_241 rfl rfl ?_
                      refine zx_iload dL_acts_242 rfl ?_
                      refine zy_cv [zi (D 12 0)] (fX9_kindOf  hfl hz189 rfl hr189.2.2.2.2.2.1 (by first | exact hz189 _ _ | assumption | exact zr_b _ | exact zcmp_r _ _ | exact hzD _ _ | exact zr3 (tS_b hW _) | exact zr3 (lsc_b hW _ _) | exact zr3 (sc_b hW _ _) | exact rkP_zr hW _ | exact scA_zr hW _ _ | exact zr3 (cW_b hW) | exact zr3 (wS_b hW) | exact zr3 (wS_b hWn) | (unfold zr at *; omega)) (by first | assumption | omega)) dL_acts_244 (by decide) rfl cw_RL_109 okX9_kindOf rfl (Nat.le_of_ble_eq_true rfl) ⟨Nat.le_of_ble_eq_true rfl, Nat.le_of_ble_eq_true rfl, Nat.le_of_ble_eq_true rfl, Nat.le_of_ble_eq_true rfl⟩ ?_
                      refine zx_iload dL_acts_247 rfl ?_
                      refine zx_icmp_ne (tgt := 267) (by first | exact hz189 _ _ | assumption | exact zr_b _ | exact zcmp_r _ _ | exact hzD _ _ | exact zr3 (tS_b hW _) | exact zr3 (lsc_b hW _ _) | exact zr3 (sc_b hW _ _) | exact rkP_zr hW _ | exact scA_zr hW _ _ | exact zr3 (cW_b hW) | exact zr3 (wS_b hW) | exact zr3 (wS_b hWn) | (unfold zr at *; omega)) (by first | exact hz189 _ _ | assumption | exact zr_b _ | exact zcmp_r _ _ | exact hzD _ _ | exact zr3 (tS_b hW _) | exact zr3 (lsc_b hW _ _) | exact zr3 (sc_b hW _ _) | exact rkP_zr hW _ | exact scA_zr hW _ _ | exact zr3 (cW_b hW) | exact zr3 (wS_b hW) | exact zr3 (wS_b hWn) | (unfold zr at *; omega)) dL_acts_249 (by decide) (fun h249 => ?_) (fun h249 => ?_)
                      · exfalso; omega
                      · refine zx_aloadN dL_acts_252 rfl rfl ?_
                        refine zx_iload dL_acts_253 rfl ?_
                        refine zy_cv [zi (D 12 0)] (fX9_valueOf  hfl hz189 rfl hr189.2.2.2.2.2.1 (by first | exact hz189 _ _ | assumption | exact zr_b _ | exact zcmp_r _ _ | exact hzD _ _ | exact zr3 (tS_b hW _) | exact zr3 (lsc_b hW _ _) | exact zr3 (sc_b hW _ _) | exact rkP_zr hW _ | exact scA_zr hW _ _ | exact zr3 (cW_b hW) | exact zr3 (wS_b hW) | exact zr3 (wS_b hWn) | (unfold zr at *; omega)) (by first | assumption | omega)) dL_acts_255 (by decide) rfl cw_RL_114 okX9_valueOf rfl (Nat.le_of_ble_eq_true rfl) ⟨Nat.le_of_ble_eq_true rfl, Nat.le_of_ble_eq_true rfl, Nat.le_of_ble_eq_true rfl, Nat.le_of_ble_eq_true rfl⟩ ?_
                        refine zx_iload dL_acts_258 rfl ?_
                        refine zx_icmp_ne (tgt := 267) (by first | exact hz189 _ _ | assumption | exact zr_b _ | exact zcmp_r _ _ | exact hzD _ _ | exact zr3 (tS_b hW _) | exact zr3 (lsc_b hW _ _) | exact zr3 (sc_b hW _ _) | exact rkP_zr hW _ | exact scA_zr hW _ _ | exact zr3 (cW_b hW) | exact zr3 (wS_b hW) | exact zr3 (wS_b hWn) | (unfold zr at *; omega)) (by first | exact hz189 _ _ | assumption | exact zr_b _ | exact zcmp_r _ _ | exact hzD _ _ | exact zr3 (tS_b hW _) | exact zr3 (lsc_b hW _ _) | exact zr3 (sc_b hW _ _) | exact rkP_zr hW _ | exact scA_zr hW _ _ | exact zr3 (cW_b hW) | exact zr3 (wS_b hW) | exact zr3 (wS_b hWn) | (unfold zr at *; omega)) dL_acts_260 (by decide) (fun h260 => ?_) (fun h260 => ?_)
                        · exfalso; omega
                        · refine zx_iconst dL_acts_263 ?_
                          refine zx_goto (tgt := 268) dL_acts_264 (by decide) ?_
                          refine zx_iret rfl rfl dL_acts_268 ?_
                          rw [hQ]
                          refine ⟨congrArg (fun z : Int => (Sum.inl (some (zi z)) : Option zV ⊕ String)) ?_, ?_⟩
                          · first | rfl | assumption | omega
                          exact AP_e (aB_1 hu.2 (by omega)) (AP_d (zSame_rf _ _) hr189 (zSame_rf _ _) hz189)
              · refine zx_iload dL_acts_201 rfl ?_
                refine zx_bipush dL_acts_203 rfl ?_
                refine zx_icmp_ne (tgt := 212) (by first | exact hz189 _ _ | assumption | exact zr_b _ | exact zcmp_r _ _ | exact hzD _ _ | exact zr3 (tS_b hW _) | exact zr3 (lsc_b hW _ _) | exact zr3 (sc_b hW _ _) | exact rkP_zr hW _ | exact scA_zr hW _ _ | exact zr3 (cW_b hW) | exact zr3 (wS_b hW) | exact zr3 (wS_b hWn) | (unfold zr at *; omega)) (by first | exact hz189 _ _ | assumption | exact zr_b _ | exact zcmp_r _ _ | exact hzD _ _ | exact zr3 (tS_b hW _) | exact zr3 (lsc_b hW _ _) | exact zr3 (sc_b hW _ _) | exact rkP_zr hW _ | exact scA_zr hW _ _ | exact zr3 (cW_b hW) | exact zr3 (wS_b hW) | exact zr3 (wS_b hWn) | (unfold zr at *; omega)) dL_acts_205 (by decide) (fun h205 => ?_) (fun h205 => ?_)
                · exfalso; omega
                · refine zx_iconst dL_acts_208 ?_
                  refine zx_goto (tgt := 268) dL_acts_209 (by decide) ?_
                  refine zx_iret rfl rfl dL_acts_268 ?_
                  rw [hQ]
                  refine ⟨congrArg (fun z : Int => (Sum.inl (some (zi z)) : Option zV ⊕ String)) ?_, ?_⟩
                  · first | rfl | assumption | omega
                  exact AP_e (aB_1 hu.2 (by omega)) (AP_d (zSame_rf _ _) hr189 (zSame_rf _ _) hz189)
            · refine zy_csHR [zf 9 0, zi (y % 5), zi (1 + (x % 30)), zi (aV mk (y % 5) z), zi (1 + ((x + z) % 9))] (sL_does_addF  hfl hz hB hW (HN_j hN (zSame_rf _ _)) (HBA_j hA (zSame_rf _ _)) (by first | assumption | omega) (by first | assumption | omega) (by first | assumption | omega) (by first | assumption | omega)) dL_acts_189 cw_RL_231 okL_does rfl (Nat.le_of_ble_eq_true rfl) ⟨Nat.le_of_ble_eq_true rfl, Nat.le_of_ble_eq_true rfl, Nat.le_of_ble_eq_true rfl, Nat.le_of_ble_eq_true rfl⟩ (fun τ189 hr189 => ?_)
              have hz189 : zOK τ189 := hr189.1
              refine zy_istore [zf 9 0, zi mk, zi u, zi x, zi y, zi z, zi (D 12 0), zi 0, zi (y % 5), zi (aV mk (y % 5) z), zi (-103), zu, zu, zu] dL_acts_192 (Nat.le_of_ble_eq_true rfl) (Nat.le_of_ble_eq_true rfl) rfl rfl ?_
              refine zx_iload dL_acts_194 rfl ?_
              refine zx_bipush dL_acts_196 rfl ?_
              refine zx_icmp_ne (tgt := 216) (by first | exact hz189 _ _ | assumption | exact zr_b _ | exact zcmp_r _ _ | exact hzD _ _ | exact zr3 (tS_b hW _) | exact zr3 (lsc_b hW _ _) | exact zr3 (sc_b hW _ _) | exact rkP_zr hW _ | exact scA_zr hW _ _ | exact zr3 (cW_b hW) | exact zr3 (wS_b hW) | exact zr3 (wS_b hWn) | (unfold zr at *; omega)) (by first | exact hz189 _ _ | assumption | exact zr_b _ | exact zcmp_r _ _ | exact hzD _ _ | exact zr3 (tS_b hW _) | exact zr3 (lsc_b hW _ _) | exact zr3 (sc_b hW _ _) | exact rkP_zr hW _ | exact scA_zr hW _ _ | exact zr3 (cW_b hW) | exact zr3 (wS_b hW) | exact zr3 (wS_b hWn) | (unfold zr at *; omega)) dL_acts_198 (by decide) (fun h198 => ?_) (fun h198 => ?_)
              · exfalso; omega
              · refine zx_iload dL_acts_201 rfl ?_
                refine zx_bipush dL_acts_203 rfl ?_
                refine zx_icmp_ne (tgt := 212) (by first | exact hz189 _ _ | assumption | exact zr_b _ | exact zcmp_r _ _ | exact hzD _ _ | exact zr3 (tS_b hW _) | exact zr3 (lsc_b hW _ _) | exact zr3 (sc_b hW _ _) | exact rkP_zr hW _ | exact scA_zr hW _ _ | exact zr3 (cW_b hW) | exact zr3 (wS_b hW) | exact zr3 (wS_b hWn) | (unfold zr at *; omega)) (by first | exact hz189 _ _ | assumption | exact zr_b _ | exact zcmp_r _ _ | exact hzD _ _ | exact zr3 (tS_b hW _) | exact zr3 (lsc_b hW _ _) | exact zr3 (sc_b hW _ _) | exact rkP_zr hW _ | exact scA_zr hW _ _ | exact zr3 (cW_b hW) | exact zr3 (wS_b hW) | exact zr3 (wS_b hWn) | (unfold zr at *; omega)) dL_acts_205 (by decide) (fun h205 => ?_) (fun h205 => ?_)
                · exact absurd h205 (by decide)
                · refine zx_iconst dL_acts_208 ?_
                  refine zx_goto (tgt := 268) dL_acts_209 (by decide) ?_
                  refine zx_iret rfl rfl dL_acts_268 ?_
                  rw [hQ]
                  refine ⟨congrArg (fun z : Int => (Sum.inl (some (zi z)) : Option zV ⊕ String)) ?_, ?_⟩
                  · first | rfl | assumption | omega
                  exact AP_e (aB_0 hu.2 (by omega)) (AP_f hW (zSame_rf _ _) hr189 (zSame_rf _ _) hz189 rfl)
        · refine zx_aloadN dL_acts_88 rfl rfl ?_
          refine zx_iconst dL_acts_89 ?_
          refine zx_iconst dL_acts_90 ?_
          refine zx_iconst dL_acts_91 ?_
          refine zx_iconst dL_acts_92 ?_
          refine zy_csHR [zf 9 0, zi 2, zi 5, zi 0, zi 1] (sL_does_addM  hfl hz hB hW (HN_j hN (zSame_rf _ _)) (HBA_j hA (zSame_rf _ _)) (by first | assumption | omega)) dL_acts_93 cw_RL_231 okL_does rfl (Nat.le_of_ble_eq_true rfl) ⟨Nat.le_of_ble_eq_true rfl, Nat.le_of_ble_eq_true rfl, Nat.le_of_ble_eq_true rfl, Nat.le_of_ble_eq_true rfl⟩ (fun τ93 hr93 => ?_)
          have hz93 : zOK τ93 := hr93.1
          refine zx_bipush dL_acts_96 rfl ?_
          refine zx_icmp_ne (tgt := 105) (by first | exact hz93 _ _ | assumption | exact zr_b _ | exact zcmp_r _ _ | exact hzD _ _ | exact zr3 (tS_b hW _) | exact zr3 (lsc_b hW _ _) | exact zr3 (sc_b hW _ _) | exact rkP_zr hW _ | exact scA_zr hW _ _ | exact zr3 (cW_b hW) | exact zr3 (wS_b hW) | exact zr3 (wS_b hWn) | (unfold zr at *; omega)) (by first | exact hz93 _ _ | assumption | exact zr_b _ | exact zcmp_r _ _ | exact hzD _ _ | exact zr3 (tS_b hW _) | exact zr3 (lsc_b hW _ _) | exact zr3 (sc_b hW _ _) | exact rkP_zr hW _ | exact scA_zr hW _ _ | exact zr3 (cW_b hW) | exact zr3 (wS_b hW) | exact zr3 (wS_b hWn) | (unfold zr at *; omega)) dL_acts_98 (by decide) (fun h98 => ?_) (fun h98 => ?_)
          · exact absurd h98 (by decide)
          · refine zx_iconst dL_acts_101 ?_
            refine zx_goto (tgt := 106) dL_acts_102 (by decide) ?_
            refine zx_iret rfl rfl dL_acts_106 ?_
            rw [hQ]
            refine ⟨congrArg (fun z : Int => (Sum.inl (some (zi z)) : Option zV ⊕ String)) ?_, ?_⟩
            · first | rfl | assumption | omega
            exact AP_e (aB_0 hu.2 (by omega)) (AP_f hW (zSame_rf _ _) hr93 (zSame_rf _ _) hz93 rfl)
    rcases (by omega : u = 0 ∨ u = 1 ∨ u = 2 ∨ u = 3 ∨ u = 4 ∨ u = 5 ∨ u = 6 ∨ u = 7 ∨ u = 8 ∨ (u < 0 ∨ 8 < u)) with h22 | h22 | h22 | h22 | h22 | h22 | h22 | h22 | h22 | h22
    · refine zx_tableIn (off := 50) (tgt := 72) (by first | exact hz _ _ | assumption | exact zr_b _ | exact zcmp_r _ _ | exact hzD _ _ | exact zr3 (tS_b hW _) | exact zr3 (lsc_b hW _ _) | exact zr3 (sc_b hW _ _) | exact rkP_zr hW _ | exact scA_zr hW _ _ | exact zr3 (cW_b hW) | exact zr3 (wS_b hW) | exact zr3 (wS_b hWn) | (unfold zr at *; omega)) dL_acts_22 (by omega) (by omega) (by rw [h22]; rfl) (by decide) ?_
      exact J72
    · refine zx_tableIn (off := 50) (tgt := 72) (by first | exact hz _ _ | assumption | exact zr_b _ | exact zcmp_r _ _ | exact hzD _ _ | exact zr3 (tS_b hW _) | exact zr3 (lsc_b hW _ _) | exact zr3 (sc_b hW _ _) | exact rkP_zr hW _ | exact scA_zr hW _ _ | exact zr3 (cW_b hW) | exact zr3 (wS_b hW) | exact zr3 (wS_b hWn) | (unfold zr at *; omega)) dL_acts_22 (by omega) (by omega) (by rw [h22]; rfl) (by decide) ?_
      exact J72
    · refine zx_tableIn (off := 50) (tgt := 72) (by first | exact hz _ _ | assumption | exact zr_b _ | exact zcmp_r _ _ | exact hzD _ _ | exact zr3 (tS_b hW _) | exact zr3 (lsc_b hW _ _) | exact zr3 (sc_b hW _ _) | exact rkP_zr hW _ | exact scA_zr hW _ _ | exact zr3 (cW_b hW) | exact zr3 (wS_b hW) | exact zr3 (wS_b hWn) | (unfold zr at *; omega)) dL_acts_22 (by omega) (by omega) (by rw [h22]; rfl) (by decide) ?_
      exact J72
    · refine zx_tableIn (off := 247) (tgt := 269) (by first | exact hz _ _ | assumption | exact zr_b _ | exact zcmp_r _ _ | exact hzD _ _ | exact zr3 (tS_b hW _) | exact zr3 (lsc_b hW _ _) | exact zr3 (sc_b hW _ _) | exact rkP_zr hW _ | exact scA_zr hW _ _ | exact zr3 (cW_b hW) | exact zr3 (wS_b hW) | exact zr3 (wS_b hWn) | (unfold zr at *; omega)) dL_acts_22 (by omega) (by omega) (by rw [h22]; rfl) (by decide) ?_
      exfalso; omega
    · refine zx_tableIn (off := 247) (tgt := 269) (by first | exact hz _ _ | assumption | exact zr_b _ | exact zcmp_r _ _ | exact hzD _ _ | exact zr3 (tS_b hW _) | exact zr3 (lsc_b hW _ _) | exact zr3 (sc_b hW _ _) | exact rkP_zr hW _ | exact scA_zr hW _ _ | exact zr3 (cW_b hW) | exact zr3 (wS_b hW) | exact zr3 (wS_b hWn) | (unfold zr at *; omega)) dL_acts_22 (by omega) (by omega) (by rw [h22]; rfl) (by decide) ?_
      exfalso; omega
    · refine zx_tableIn (off := 258) (tgt := 280) (by first | exact hz _ _ | assumption | exact zr_b _ | exact zcmp_r _ _ | exact hzD _ _ | exact zr3 (tS_b hW _) | exact zr3 (lsc_b hW _ _) | exact zr3 (sc_b hW _ _) | exact rkP_zr hW _ | exact scA_zr hW _ _ | exact zr3 (cW_b hW) | exact zr3 (wS_b hW) | exact zr3 (wS_b hWn) | (unfold zr at *; omega)) dL_acts_22 (by omega) (by omega) (by rw [h22]; rfl) (by decide) ?_
      exfalso; omega
    · refine zx_tableIn (off := 258) (tgt := 280) (by first | exact hz _ _ | assumption | exact zr_b _ | exact zcmp_r _ _ | exact hzD _ _ | exact zr3 (tS_b hW _) | exact zr3 (lsc_b hW _ _) | exact zr3 (sc_b hW _ _) | exact rkP_zr hW _ | exact scA_zr hW _ _ | exact zr3 (cW_b hW) | exact zr3 (wS_b hW) | exact zr3 (wS_b hWn) | (unfold zr at *; omega)) dL_acts_22 (by omega) (by omega) (by rw [h22]; rfl) (by decide) ?_
      exfalso; omega
    · refine zx_tableIn (off := 414) (tgt := 436) (by first | exact hz _ _ | assumption | exact zr_b _ | exact zcmp_r _ _ | exact hzD _ _ | exact zr3 (tS_b hW _) | exact zr3 (lsc_b hW _ _) | exact zr3 (sc_b hW _ _) | exact rkP_zr hW _ | exact scA_zr hW _ _ | exact zr3 (cW_b hW) | exact zr3 (wS_b hW) | exact zr3 (wS_b hWn) | (unfold zr at *; omega)) dL_acts_22 (by omega) (by omega) (by rw [h22]; rfl) (by decide) ?_
      exfalso; omega
    · refine zx_tableIn (off := 490) (tgt := 512) (by first | exact hz _ _ | assumption | exact zr_b _ | exact zcmp_r _ _ | exact hzD _ _ | exact zr3 (tS_b hW _) | exact zr3 (lsc_b hW _ _) | exact zr3 (sc_b hW _ _) | exact rkP_zr hW _ | exact scA_zr hW _ _ | exact zr3 (cW_b hW) | exact zr3 (wS_b hW) | exact zr3 (wS_b hWn) | (unfold zr at *; omega)) dL_acts_22 (by omega) (by omega) (by rw [h22]; rfl) (by decide) ?_
      exfalso; omega
    · refine zx_tableOut (tgt := 682) (by first | exact hz _ _ | assumption | exact zr_b _ | exact zcmp_r _ _ | exact hzD _ _ | exact zr3 (tS_b hW _) | exact zr3 (lsc_b hW _ _) | exact zr3 (sc_b hW _ _) | exact rkP_zr hW _ | exact scA_zr hW _ _ | exact zr3 (cW_b hW) | exact zr3 (wS_b hW) | exact zr3 (wS_b hWn) | (unfold zr at *; omega)) dL_acts_22 (by omega) (by decide) ?_
      exfalso; omega
set_option maxRecDepth 20000 in
set_option maxHeartbeats 2000000 in
theorem sL_acts_b {l : Launch} {w : zW} (hfl : l.stackTraces = false) {σ : zS} {D : zBk} {mk u x y z : Int} (hz : zOK σ) (hB : bK σ = D) (hW : WF D) (hP1 : 1 ≤ D 1 0) (hN : HN σ) (hA : HBA σ) (hu : 3 ≤ u ∧ u ≤ 4) (hm : D 1 7 = mk) (hmb : 0 ≤ mk ∧ mk ≤ 2) (hx : 0 ≤ x ∧ x ≤ 99999) (hy : 0 ≤ y ∧ y ≤ 99999) (hzz : 0 ≤ z ∧ z ≤ 99999) : Sp l w mL_acts 12 1 [zf 9 0, zi mk, zi u, zi x, zi y, zi z] σ (zqv (some (zi 1)) (fun τ => AP σ τ D (aB mk u x y z D))) := by
  obtain ⟨Q, hQ⟩ : ∃ Q : zQ, Q = (zqv (some (zi 1)) (fun τ => AP σ τ D (aB mk u x y z D))) := ⟨_, rfl⟩
  rw [← hQ]
  refine zx_enter hfl (by decide) rfl 8 rfl ?_
  show zX l w mL_acts (zMQ w 12 1 Q) 0 [zf 9 0, zi mk, zi u, zi x, zi y, zi z, zu, zu, zu, zu, zu, zu, zu, zu] [] 0 σ
  have hzD := hzDof hB hz
  have hn1 : 0 ≤ D 1 0 ∧ D 1 0 ≤ 8 := hW.1.1
  have hn12 : 0 ≤ D 12 0 ∧ D 12 0 ≤ 40 := hW.1.2.2.2
  have hwl : (wP D (Ht D) : Int) < D 1 0 := wP_l hW hP1
  have hwy := wY_b hW hP1
  have hws := wS_b hW
  have q5 : 0 ≤ y % 5 ∧ y % 5 < 5 := by omega
  have q0 : D 12 0 ≠ 0 → 0 ≤ x % D 12 0 := fun q => Int.emod_nonneg _ q
  have q1 : D 12 0 ≠ 0 → x % D 12 0 < D 12 0 := fun q => Int.emod_lt_of_pos _ (by omega)
  have q2 : 0 ≤ x % D 1 0 := Int.emod_nonneg _ (by omega)
  have q3 : x % D 1 0 < D 1 0 := Int.emod_lt_of_pos _ (by omega)
  have q4 : 0 ≤ y % D 1 0 := Int.emod_nonneg _ (by omega)
  have q6 : y % D 1 0 < D 1 0 := Int.emod_lt_of_pos _ (by omega)
  refine zx_aloadN dL_acts_0 rfl rfl ?_
  refine zy_cv [] (fX9_clueCount  hfl hz hB hW) dL_acts_1 (by decide) rfl cw_RL_98 okX9_clueCount rfl (Nat.le_of_ble_eq_true rfl) ⟨Nat.le_of_ble_eq_true rfl, Nat.le_of_ble_eq_true rfl, Nat.le_of_ble_eq_true rfl, Nat.le_of_ble_eq_true rfl⟩ ?_
  refine zy_istore [zf 9 0, zi mk, zi u, zi x, zi y, zi z, zi (D 12 0), zu, zu, zu, zu, zu, zu, zu] dL_acts_4 (Nat.le_of_ble_eq_true rfl) (Nat.le_of_ble_eq_true rfl) rfl rfl ?_
  refine zx_iload dL_acts_6 rfl ?_
  refine zx_if_ne (tgt := 15) (by first | exact hz _ _ | assumption | exact zr_b _ | exact zcmp_r _ _ | exact hzD _ _ | exact zr3 (tS_b hW _) | exact zr3 (lsc_b hW _ _) | exact zr3 (sc_b hW _ _) | exact rkP_zr hW _ | exact scA_zr hW _ _ | exact zr3 (cW_b hW) | exact zr3 (wS_b hW) | exact zr3 (wS_b hWn) | (unfold zr at *; omega)) dL_acts_8 (by decide) (fun h8 => ?_) (fun h8 => ?_)
  · refine zx_iloadN dL_acts_15 rfl rfl ?_
    refine zx_iload dL_acts_16 rfl ?_
    refine zx_irem (by omega) (by omega) (by omega) (by omega) dL_acts_18 ?_
    refine zy_istore [zf 9 0, zi mk, zi u, zi x, zi y, zi z, zi (D 12 0), zi (x % (D 12 0)), zu, zu, zu, zu, zu, zu] dL_acts_19 (Nat.le_of_ble_eq_true rfl) (Nat.le_of_ble_eq_true rfl) rfl rfl ?_
    refine zx_iloadN dL_acts_21 rfl rfl ?_
    have J269 : zX l w mL_acts (zMQ w 12 1 Q) 269 [zf 9 0, zi mk, zi u, zi x, zi y, zi z, zi (D 12 0), zi (x % (D 12 0)), zu, zu, zu, zu, zu, zu] [] 0 σ := by
      refine zx_aloadN dL_acts_269 rfl rfl ?_
      refine zx_iconst dL_acts_270 ?_
      refine zx_iload dL_acts_271 rfl ?_
      refine zx_iconst dL_acts_273 ?_
      refine zx_irem (by omega) (by omega) (by omega) (by omega) dL_acts_274 ?_
      refine zx_iadd dL_acts_275 ?_
      refine zy_csR [zf 9 0, zi (1 + (z % 4))] (sL_reads_  hfl hz hB hW hP1 (HN_j hN (zSame_rf _ _)) (HBA_j hA (zSame_rf _ _)) (by first | assumption | omega)) dL_acts_276 cw_RL_235 okL_reads_ rfl (Nat.le_of_ble_eq_true rfl) ⟨Nat.le_of_ble_eq_true rfl, Nat.le_of_ble_eq_true rfl, Nat.le_of_ble_eq_true rfl, Nat.le_of_ble_eq_true rfl⟩ (fun τ276 hr276 => ?_)
      have hz276 : zOK τ276 := hr276.1
      refine zx_iret rfl rfl dL_acts_279 ?_
      rw [hQ]
      refine ⟨congrArg (fun z : Int => (Sum.inl (some (zi z)) : Option zV ⊕ String)) ?_, ?_⟩
      · first | rfl | assumption | omega
      exact AP_e (aB_2 hu.1 hu.2) (hr276)
    rcases (by omega : u = 0 ∨ u = 1 ∨ u = 2 ∨ u = 3 ∨ u = 4 ∨ u = 5 ∨ u = 6 ∨ u = 7 ∨ u = 8 ∨ (u < 0 ∨ 8 < u)) with h22 | h22 | h22 | h22 | h22 | h22 | h22 | h22 | h22 | h22
    · refine zx_tableIn (off := 50) (tgt := 72) (by first | exact hz _ _ | assumption | exact zr_b _ | exact zcmp_r _ _ | exact hzD _ _ | exact zr3 (tS_b hW _) | exact zr3 (lsc_b hW _ _) | exact zr3 (sc_b hW _ _) | exact rkP_zr hW _ | exact scA_zr hW _ _ | exact zr3 (cW_b hW) | exact zr3 (wS_b hW) | exact zr3 (wS_b hWn) | (unfold zr at *; omega)) dL_acts_22 (by omega) (by omega) (by rw [h22]; rfl) (by decide) ?_
      exfalso; omega
    · refine zx_tableIn (off := 50) (tgt := 72) (by first | exact hz _ _ | assumption | exact zr_b _ | exact zcmp_r _ _ | exact hzD _ _ | exact zr3 (tS_b hW _) | exact zr3 (lsc_b hW _ _) | exact zr3 (sc_b hW _ _) | exact rkP_zr hW _ | exact scA_zr hW _ _ | exact zr3 (cW_b hW) | exact zr3 (wS_b hW) | exact zr3 (wS_b hWn) | (unfold zr at *; omega)) dL_acts_22 (by omega) (by omega) (by rw [h22]; rfl) (by decide) ?_
      exfalso; omega
    · refine zx_tableIn (off := 50) (tgt := 72) (by first | exact hz _ _ | assumption | exact zr_b _ | exact zcmp_r _ _ | exact hzD _ _ | exact zr3 (tS_b hW _) | exact zr3 (lsc_b hW _ _) | exact zr3 (sc_b hW _ _) | exact rkP_zr hW _ | exact scA_zr hW _ _ | exact zr3 (cW_b hW) | exact zr3 (wS_b hW) | exact zr3 (wS_b hWn) | (unfold zr at *; omega)) dL_acts_22 (by omega) (by omega) (by rw [h22]; rfl) (by decide) ?_
      exfalso; omega
    · refine zx_tableIn (off := 247) (tgt := 269) (by first | exact hz _ _ | assumption | exact zr_b _ | exact zcmp_r _ _ | exact hzD _ _ | exact zr3 (tS_b hW _) | exact zr3 (lsc_b hW _ _) | exact zr3 (sc_b hW _ _) | exact rkP_zr hW _ | exact scA_zr hW _ _ | exact zr3 (cW_b hW) | exact zr3 (wS_b hW) | exact zr3 (wS_b hWn) | (unfold zr at *; omega)) dL_acts_22 (by omega) (by omega) (by rw [h22]; rfl) (by decide) ?_
      exact J269
    · refine zx_tableIn (off := 247) (tgt := 269) (by first | exact hz _ _ | assumption | exact zr_b _ | exact zcmp_r _ _ | exact hzD _ _ | exact zr3 (tS_b hW _) | exact zr3 (lsc_b hW _ _) | exact zr3 (sc_b hW _ _) | exact rkP_zr hW _ | exact scA_zr hW _ _ | exact zr3 (cW_b hW) | exact zr3 (wS_b hW) | exact zr3 (wS_b hWn) | (unfold zr at *; omega)) dL_acts_22 (by omega) (by omega) (by rw [h22]; rfl) (by decide) ?_
      exact J269
    · refine zx_tableIn (off := 258) (tgt := 280) (by first | exact hz _ _ | assumption | exact zr_b _ | exact zcmp_r _ _ | exact hzD _ _ | exact zr3 (tS_b hW _) | exact zr3 (lsc_b hW _ _) | exact zr3 (sc_b hW _ _) | exact rkP_zr hW _ | exact scA_zr hW _ _ | exact zr3 (cW_b hW) | exact zr3 (wS_b hW) | exact zr3 (wS_b hWn) | (unfold zr at *; omega)) dL_acts_22 (by omega) (by omega) (by rw [h22]; rfl) (by decide) ?_
      exfalso; omega
    · refine zx_tableIn (off := 258) (tgt := 280) (by first | exact hz _ _ | assumption | exact zr_b _ | exact zcmp_r _ _ | exact hzD _ _ | exact zr3 (tS_b hW _) | exact zr3 (lsc_b hW _ _) | exact zr3 (sc_b hW _ _) | exact rkP_zr hW _ | exact scA_zr hW _ _ | exact zr3 (cW_b hW) | exact zr3 (wS_b hW) | exact zr3 (wS_b hWn) | (unfold zr at *; omega)) dL_acts_22 (by omega) (by omega) (by rw [h22]; rfl) (by decide) ?_
      exfalso; omega
    · refine zx_tableIn (off := 414) (tgt := 436) (by first | exact hz _ _ | assumption | exact zr_b _ | exact zcmp_r _ _ | exact hzD _ _ | exact zr3 (tS_b hW _) | exact zr3 (lsc_b hW _ _) | exact zr3 (sc_b hW _ _) | exact rkP_zr hW _ | exact scA_zr hW _ _ | exact zr3 (cW_b hW) | exact zr3 (wS_b hW) | exact zr3 (wS_b hWn) | (unfold zr at *; omega)) dL_acts_22 (by omega) (by omega) (by rw [h22]; rfl) (by decide) ?_
      exfalso; omega
    · refine zx_tableIn (off := 490) (tgt := 512) (by first | exact hz _ _ | assumption | exact zr_b _ | exact zcmp_r _ _ | exact hzD _ _ | exact zr3 (tS_b hW _) | exact zr3 (lsc_b hW _ _) | exact zr3 (sc_b hW _ _) | exact rkP_zr hW _ | exact scA_zr hW _ _ | exact zr3 (cW_b hW) | exact zr3 (wS_b hW) | exact zr3 (wS_b hWn) | (unfold zr at *; omega)) dL_acts_22 (by omega) (by omega) (by rw [h22]; rfl) (by decide) ?_
      exfalso; omega
    · refine zx_tableOut (tgt := 682) (by first | exact hz _ _ | assumption | exact zr_b _ | exact zcmp_r _ _ | exact hzD _ _ | exact zr3 (tS_b hW _) | exact zr3 (lsc_b hW _ _) | exact zr3 (sc_b hW _ _) | exact rkP_zr hW _ | exact scA_zr hW _ _ | exact zr3 (cW_b hW) | exact zr3 (wS_b hW) | exact zr3 (wS_b hWn) | (unfold zr at *; omega)) dL_acts_22 (by omega) (by decide) ?_
      exfalso; omega
  · refine zx_iconst dL_acts_11 ?_
    refine zx_goto (tgt := 19) dL_acts_12 (by decide) ?_
    refine zy_istore [zf 9 0, zi mk, zi u, zi x, zi y, zi z, zi (D 12 0), zi 0, zu, zu, zu, zu, zu, zu] dL_acts_19 (Nat.le_of_ble_eq_true rfl) (Nat.le_of_ble_eq_true rfl) rfl rfl ?_
    refine zx_iloadN dL_acts_21 rfl rfl ?_
    have J269 : zX l w mL_acts (zMQ w 12 1 Q) 269 [zf 9 0, zi mk, zi u, zi x, zi y, zi z, zi (D 12 0), zi 0, zu, zu, zu, zu, zu, zu] [] 0 σ := by
      refine zx_aloadN dL_acts_269 rfl rfl ?_
      refine zx_iconst dL_acts_270 ?_
      refine zx_iload dL_acts_271 rfl ?_
      refine zx_iconst dL_acts_273 ?_
      refine zx_irem (by omega) (by omega) (by omega) (by omega) dL_acts_274 ?_
      refine zx_iadd dL_acts_275 ?_
      refine zy_csR [zf 9 0, zi (1 + (z % 4))] (sL_reads_  hfl hz hB hW hP1 (HN_j hN (zSame_rf _ _)) (HBA_j hA (zSame_rf _ _)) (by first | assumption | omega)) dL_acts_276 cw_RL_235 okL_reads_ rfl (Nat.le_of_ble_eq_true rfl) ⟨Nat.le_of_ble_eq_true rfl, Nat.le_of_ble_eq_true rfl, Nat.le_of_ble_eq_true rfl, Nat.le_of_ble_eq_true rfl⟩ (fun τ276 hr276 => ?_)
      have hz276 : zOK τ276 := hr276.1
      refine zx_iret rfl rfl dL_acts_279 ?_
      rw [hQ]
      refine ⟨congrArg (fun z : Int => (Sum.inl (some (zi z)) : Option zV ⊕ String)) ?_, ?_⟩
      · first | rfl | assumption | omega
      exact AP_e (aB_2 hu.1 hu.2) (hr276)
    rcases (by omega : u = 0 ∨ u = 1 ∨ u = 2 ∨ u = 3 ∨ u = 4 ∨ u = 5 ∨ u = 6 ∨ u = 7 ∨ u = 8 ∨ (u < 0 ∨ 8 < u)) with h22 | h22 | h22 | h22 | h22 | h22 | h22 | h22 | h22 | h22
    · refine zx_tableIn (off := 50) (tgt := 72) (by first | exact hz _ _ | assumption | exact zr_b _ | exact zcmp_r _ _ | exact hzD _ _ | exact zr3 (tS_b hW _) | exact zr3 (lsc_b hW _ _) | exact zr3 (sc_b hW _ _) | exact rkP_zr hW _ | exact scA_zr hW _ _ | exact zr3 (cW_b hW) | exact zr3 (wS_b hW) | exact zr3 (wS_b hWn) | (unfold zr at *; omega)) dL_acts_22 (by omega) (by omega) (by rw [h22]; rfl) (by decide) ?_
      exfalso; omega
    · refine zx_tableIn (off := 50) (tgt := 72) (by first | exact hz _ _ | assumption | exact zr_b _ | exact zcmp_r _ _ | exact hzD _ _ | exact zr3 (tS_b hW _) | exact zr3 (lsc_b hW _ _) | exact zr3 (sc_b hW _ _) | exact rkP_zr hW _ | exact scA_zr hW _ _ | exact zr3 (cW_b hW) | exact zr3 (wS_b hW) | exact zr3 (wS_b hWn) | (unfold zr at *; omega)) dL_acts_22 (by omega) (by omega) (by rw [h22]; rfl) (by decide) ?_
      exfalso; omega
    · refine zx_tableIn (off := 50) (tgt := 72) (by first | exact hz _ _ | assumption | exact zr_b _ | exact zcmp_r _ _ | exact hzD _ _ | exact zr3 (tS_b hW _) | exact zr3 (lsc_b hW _ _) | exact zr3 (sc_b hW _ _) | exact rkP_zr hW _ | exact scA_zr hW _ _ | exact zr3 (cW_b hW) | exact zr3 (wS_b hW) | exact zr3 (wS_b hWn) | (unfold zr at *; omega)) dL_acts_22 (by omega) (by omega) (by rw [h22]; rfl) (by decide) ?_
      exfalso; omega
    · refine zx_tableIn (off := 247) (tgt := 269) (by first | exact hz _ _ | assumption | exact zr_b _ | exact zcmp_r _ _ | exact hzD _ _ | exact zr3 (tS_b hW _) | exact zr3 (lsc_b hW _ _) | exact zr3 (sc_b hW _ _) | exact rkP_zr hW _ | exact scA_zr hW _ _ | exact zr3 (cW_b hW) | exact zr3 (wS_b hW) | exact zr3 (wS_b hWn) | (unfold zr at *; omega)) dL_acts_22 (by omega) (by omega) (by rw [h22]; rfl) (by decide) ?_
      exact J269
    · refine zx_tableIn (off := 247) (tgt := 269) (by first | exact hz _ _ | assumption | exact zr_b _ | exact zcmp_r _ _ | exact hzD _ _ | exact zr3 (tS_b hW _) | exact zr3 (lsc_b hW _ _) | exact zr3 (sc_b hW _ _) | exact rkP_zr hW _ | exact scA_zr hW _ _ | exact zr3 (cW_b hW) | exact zr3 (wS_b hW) | exact zr3 (wS_b hWn) | (unfold zr at *; omega)) dL_acts_22 (by omega) (by omega) (by rw [h22]; rfl) (by decide) ?_
      exact J269
    · refine zx_tableIn (off := 258) (tgt := 280) (by first | exact hz _ _ | assumption | exact zr_b _ | exact zcmp_r _ _ | exact hzD _ _ | exact zr3 (tS_b hW _) | exact zr3 (lsc_b hW _ _) | exact zr3 (sc_b hW _ _) | exact rkP_zr hW _ | exact scA_zr hW _ _ | exact zr3 (cW_b hW) | exact zr3 (wS_b hW) | exact zr3 (wS_b hWn) | (unfold zr at *; omega)) dL_acts_22 (by omega) (by omega) (by rw [h22]; rfl) (by decide) ?_
      exfalso; omega
    · refine zx_tableIn (off := 258) (tgt := 280) (by first | exact hz _ _ | assumption | exact zr_b _ | exact zcmp_r _ _ | exact hzD _ _ | exact zr3 (tS_b hW _) | exact zr3 (lsc_b hW _ _) | exact zr3 (sc_b hW _ _) | exact rkP_zr hW _ | exact scA_zr hW _ _ | exact zr3 (cW_b hW) | exact zr3 (wS_b hW) | exact zr3 (wS_b hWn) | (unfold zr at *; omega)) dL_acts_22 (by omega) (by omega) (by rw [h22]; rfl) (by decide) ?_
      exfalso; omega
    · refine zx_tableIn (off := 414) (tgt := 436) (by first | exact hz _ _ | assumption | exact zr_b _ | exact zcmp_r _ _ | exact hzD _ _ | exact zr3 (tS_b hW _) | exact zr3 (lsc_b hW _ _) | exact zr3 (sc_b hW _ _) | exact rkP_zr hW _ | exact scA_zr hW _ _ | exact zr3 (cW_b hW) | exact zr3 (wS_b hW) | exact zr3 (wS_b hWn) | (unfold zr at *; omega)) dL_acts_22 (by omega) (by omega) (by rw [h22]; rfl) (by decide) ?_
      exfalso; omega
    · refine zx_tableIn (off := 490) (tgt := 512) (by first | exact hz _ _ | assumption | exact zr_b _ | exact zcmp_r _ _ | exact hzD _ _ | exact zr3 (tS_b hW _) | exact zr3 (lsc_b hW _ _) | exact zr3 (sc_b hW _ _) | exact rkP_zr hW _ | exact scA_zr hW _ _ | exact zr3 (cW_b hW) | exact zr3 (wS_b hW) | exact zr3 (wS_b hWn) | (unfold zr at *; omega)) dL_acts_22 (by omega) (by omega) (by rw [h22]; rfl) (by decide) ?_
      exfalso; omega
    · refine zx_tableOut (tgt := 682) (by first | exact hz _ _ | assumption | exact zr_b _ | exact zcmp_r _ _ | exact hzD _ _ | exact zr3 (tS_b hW _) | exact zr3 (lsc_b hW _ _) | exact zr3 (sc_b hW _ _) | exact rkP_zr hW _ | exact scA_zr hW _ _ | exact zr3 (cW_b hW) | exact zr3 (wS_b hW) | exact zr3 (wS_b hWn) | (unfold zr at *; omega)) dL_acts_22 (by omega) (by decide) ?_
      exfalso; omega
set_option maxRecDepth 20000 in
set_option maxHeartbeats 2000000 in
theorem sL_acts_c {l : Launch} {w : zW} (hfl : l.stackTraces = false) {σ : zS} {D : zBk} {mk u x y z : Int} (hz : zOK σ) (hB : bK σ = D) (hW : WF D) (hP1 : 1 ≤ D 1 0) (hN : HN σ) (hA : HBA σ) (hu : 5 ≤ u ∧ u ≤ 6) (hy2 : y % 2 = 0) (hm : D 1 7 = mk) (hmb : 0 ≤ mk ∧ mk ≤ 2) (hx : 0 ≤ x ∧ x ≤ 99999) (hy : 0 ≤ y ∧ y ≤ 99999) (hzz : 0 ≤ z ∧ z ≤ 99999) : Sp l w mL_acts 12 1 [zf 9 0, zi mk, zi u, zi x, zi y, zi z] σ (zqv (some (zi 1)) (fun τ => AP σ τ D (aB mk u x y z D))) := by
  obtain ⟨Q, hQ⟩ : ∃ Q : zQ, Q = (zqv (some (zi 1)) (fun τ => AP σ τ D (aB mk u x y z D))) := ⟨_, rfl⟩
  rw [← hQ]
  refine zx_enter hfl (by decide) rfl 8 rfl ?_
  show zX l w mL_acts (zMQ w 12 1 Q) 0 [zf 9 0, zi mk, zi u, zi x, zi y, zi z, zu, zu, zu, zu, zu, zu, zu, zu] [] 0 σ
  have hzD := hzDof hB hz
  have hn1 : 0 ≤ D 1 0 ∧ D 1 0 ≤ 8 := hW.1.1
  have hn12 : 0 ≤ D 12 0 ∧ D 12 0 ≤ 40 := hW.1.2.2.2
  have hwl : (wP D (Ht D) : Int) < D 1 0 := wP_l hW hP1
  have hwy := wY_b hW hP1
  have hws := wS_b hW
  have q5 : 0 ≤ y % 5 ∧ y % 5 < 5 := by omega
  have q0 : D 12 0 ≠ 0 → 0 ≤ x % D 12 0 := fun q => Int.emod_nonneg _ q
  have q1 : D 12 0 ≠ 0 → x % D 12 0 < D 12 0 := fun q => Int.emod_lt_of_pos _ (by omega)
  have q2 : 0 ≤ x % D 1 0 := Int.emod_nonneg _ (by omega)
  have q3 : x % D 1 0 < D 1 0 := Int.emod_lt_of_pos _ (by omega)
  have q4 : 0 ≤ y % D 1 0 := Int.emod_nonneg _ (by omega)
  have q6 : y % D 1 0 < D 1 0 := Int.emod_lt_of_pos _ (by omega)
  refine zx_aloadN dL_acts_0 rfl rfl ?_
  refine zy_cv [] (fX9_clueCount  hfl hz hB hW) dL_acts_1 (by decide) rfl cw_RL_98 okX9_clueCount rfl (Nat.le_of_ble_eq_true rfl) ⟨Nat.le_of_ble_eq_true rfl, Nat.le_of_ble_eq_true rfl, Nat.le_of_ble_eq_true rfl, Nat.le_of_ble_eq_true rfl⟩ ?_
  refine zy_istore [zf 9 0, zi mk, zi u, zi x, zi y, zi z, zi (D 12 0), zu, zu, zu, zu, zu, zu, zu] dL_acts_4 (Nat.le_of_ble_eq_true rfl) (Nat.le_of_ble_eq_true rfl) rfl rfl ?_
  refine zx_iload dL_acts_6 rfl ?_
  refine zx_if_ne (tgt := 15) (by first | exact hz _ _ | assumption | exact zr_b _ | exact zcmp_r _ _ | exact hzD _ _ | exact zr3 (tS_b hW _) | exact zr3 (lsc_b hW _ _) | exact zr3 (sc_b hW _ _) | exact rkP_zr hW _ | exact scA_zr hW _ _ | exact zr3 (cW_b hW) | exact zr3 (wS_b hW) | exact zr3 (wS_b hWn) | (unfold zr at *; omega)) dL_acts_8 (by decide) (fun h8 => ?_) (fun h8 => ?_)
  · refine zx_iloadN dL_acts_15 rfl rfl ?_
    refine zx_iload dL_acts_16 rfl ?_
    refine zx_irem (by omega) (by omega) (by omega) (by omega) dL_acts_18 ?_
    refine zy_istore [zf 9 0, zi mk, zi u, zi x, zi y, zi z, zi (D 12 0), zi (x % (D 12 0)), zu, zu, zu, zu, zu, zu] dL_acts_19 (Nat.le_of_ble_eq_true rfl) (Nat.le_of_ble_eq_true rfl) rfl rfl ?_
    refine zx_iloadN dL_acts_21 rfl rfl ?_
    have J280 : zX l w mL_acts (zMQ w 12 1 Q) 280 [zf 9 0, zi mk, zi u, zi x, zi y, zi z, zi (D 12 0), zi (x % (D 12 0)), zu, zu, zu, zu, zu, zu] [] 0 σ := by
      refine zx_iload dL_acts_280 rfl ?_
      refine zx_if_ne (tgt := 310) (by first | exact hz _ _ | assumption | exact zr_b _ | exact zcmp_r _ _ | exact hzD _ _ | exact zr3 (tS_b hW _) | exact zr3 (lsc_b hW _ _) | exact zr3 (sc_b hW _ _) | exact rkP_zr hW _ | exact scA_zr hW _ _ | exact zr3 (cW_b hW) | exact zr3 (wS_b hW) | exact zr3 (wS_b hWn) | (unfold zr at *; omega)) dL_acts_282 (by decide) (fun h282 => ?_) (fun h282 => ?_)
      · refine zx_iload dL_acts_310 rfl ?_
        refine zx_iconst dL_acts_312 ?_
        refine zx_irem (by omega) (by omega) (by omega) (by omega) dL_acts_313 ?_
        refine zx_if_ne (tgt := 321) (by first | exact hz _ _ | assumption | exact zr_b _ | exact zcmp_r _ _ | exact hzD _ _ | exact zr3 (tS_b hW _) | exact zr3 (lsc_b hW _ _) | exact zr3 (sc_b hW _ _) | exact rkP_zr hW _ | exact scA_zr hW _ _ | exact zr3 (cW_b hW) | exact zr3 (wS_b hW) | exact zr3 (wS_b hWn) | (unfold zr at *; omega)) dL_acts_314 (by decide) (fun h314 => ?_) (fun h314 => ?_)
        · exfalso; omega
        · refine zx_iconst dL_acts_317 ?_
          refine zx_goto (tgt := 322) dL_acts_318 (by decide) ?_
          refine zy_istore [zf 9 0, zi mk, zi u, zi x, zi y, zi z, zi (D 12 0), zi (x % (D 12 0)), zi 1, zu, zu, zu, zu, zu] dL_acts_322 (Nat.le_of_ble_eq_true rfl) (Nat.le_of_ble_eq_true rfl) rfl rfl ?_
          have h01 : D 18 (x % D 12 0).toNat = 0 ∨ D 18 (x % D 12 0).toNat = 1 := (hW.2.2.2.2.1 (x % D 12 0).toNat (by omega)).2.2.2.2
          have hdz := dcs_zr hW
          refine zx_aloadN dL_acts_324 rfl rfl ?_
          refine zx_iload dL_acts_325 rfl ?_
          refine zy_cv [zi (x % (D 12 0))] (fX9_isAside  hfl hz hB hW (by first | exact hz _ _ | assumption | exact zr_b _ | exact zcmp_r _ _ | exact hzD _ _ | exact zr3 (tS_b hW _) | exact zr3 (lsc_b hW _ _) | exact zr3 (sc_b hW _ _) | exact rkP_zr hW _ | exact scA_zr hW _ _ | exact zr3 (cW_b hW) | exact zr3 (wS_b hW) | exact zr3 (wS_b hWn) | (unfold zr at *; omega)) (by first | assumption | omega)) dL_acts_327 (by decide) rfl cw_RL_128 okX9_isAside rfl (Nat.le_of_ble_eq_true rfl) ⟨Nat.le_of_ble_eq_true rfl, Nat.le_of_ble_eq_true rfl, Nat.le_of_ble_eq_true rfl, Nat.le_of_ble_eq_true rfl⟩ ?_
          refine zx_iload dL_acts_330 rfl ?_
          refine zx_icmp_eq (tgt := 339) (by first | exact hz _ _ | assumption | exact zr_b _ | exact zcmp_r _ _ | exact hzD _ _ | exact zr3 (tS_b hW _) | exact zr3 (lsc_b hW _ _) | exact zr3 (sc_b hW _ _) | exact rkP_zr hW _ | exact scA_zr hW _ _ | exact zr3 (cW_b hW) | exact zr3 (wS_b hW) | exact zr3 (wS_b hWn) | (unfold zr at *; omega)) (by first | exact hz _ _ | assumption | exact zr_b _ | exact zcmp_r _ _ | exact hzD _ _ | exact zr3 (tS_b hW _) | exact zr3 (lsc_b hW _ _) | exact zr3 (sc_b hW _ _) | exact rkP_zr hW _ | exact scA_zr hW _ _ | exact zr3 (cW_b hW) | exact zr3 (wS_b hW) | exact zr3 (wS_b hWn) | (unfold zr at *; omega)) dL_acts_332 (by decide) (fun h332 => ?_) (fun h332 => ?_)
          · refine zx_iconst dL_acts_339 ?_
            refine zy_istore [zf 9 0, zi mk, zi u, zi x, zi y, zi z, zi (D 12 0), zi (x % (D 12 0)), zi 1, zi 0, zu, zu, zu, zu] dL_acts_340 (Nat.le_of_ble_eq_true rfl) (Nat.le_of_ble_eq_true rfl) rfl rfl ?_
            refine zx_aloadN dL_acts_342 rfl rfl ?_
            refine zy_cvR [] (fX9_decisiveClue  hfl hz hB hW hP1) dL_acts_343 (by decide) rfl cw_RL_221 okX9_decisiveClue rfl (Nat.le_of_ble_eq_true rfl) ⟨Nat.le_of_ble_eq_true rfl, Nat.le_of_ble_eq_true rfl, Nat.le_of_ble_eq_true rfl, Nat.le_of_ble_eq_true rfl⟩ (fun τ343 hr343 => ?_)
            have hz343 : zOK τ343 := hr343.1
            refine zy_istore [zf 9 0, zi mk, zi u, zi x, zi y, zi z, zi (D 12 0), zi (x % (D 12 0)), zi 1, zi 0, zi (dcs D), zu, zu, zu] dL_acts_346 (Nat.le_of_ble_eq_true rfl) (Nat.le_of_ble_eq_true rfl) rfl rfl ?_
            refine zx_aloadN dL_acts_348 rfl rfl ?_
            refine zy_cvR [] (fX9_verdictPrinter  hfl hz343 hr343.2.2 hW hP1) dL_acts_349 (by decide) rfl cw_RL_174 okX9_verdictPrinter rfl (Nat.le_of_ble_eq_true rfl) ⟨Nat.le_of_ble_eq_true rfl, Nat.le_of_ble_eq_true rfl, Nat.le_of_ble_eq_true rfl, Nat.le_of_ble_eq_true rfl⟩ (fun τ349 hr349 => ?_)
            have hz349 : zOK τ349 := hr349.1
            refine zy_istore [zf 9 0, zi mk, zi u, zi x, zi y, zi z, zi (D 12 0), zi (x % (D 12 0)), zi 1, zi 0, zi (dcs D), zi ((wP D (Ht D) : Nat) : Int), zu, zu] dL_acts_352 (Nat.le_of_ble_eq_true rfl) (Nat.le_of_ble_eq_true rfl) rfl rfl ?_
            refine zx_aloadN dL_acts_354 rfl rfl ?_
            refine zx_bipush dL_acts_355 rfl ?_
            refine zx_iload dL_acts_357 rfl ?_
            refine zx_iconst dL_acts_359 ?_
            refine zx_irem (by omega) (by omega) (by omega) (by omega) dL_acts_360 ?_
            refine zx_iadd dL_acts_361 ?_
            refine zy_top (b := 6) (by omega) ?_
            refine zx_iload dL_acts_362 rfl ?_
            refine zx_iconst dL_acts_364 ?_
            refine zx_iconst dL_acts_365 ?_
            refine zy_csHR [zf 9 0, zi 6, zi (x % (D 12 0)), zi 0, zi 0] (sL_does_setAside_f2  hfl hz349 hr349.2.2 hW (HN_j hN (zJ (zJ (zSame_rf _ _) hr343.2.1) hr349.2.1)) (HBA_j hA (zJ (zJ (zSame_rf _ _) hr343.2.1) hr349.2.1)) (by first | assumption | omega) (by first | assumption | omega)) dL_acts_366 cw_RL_231 okL_does rfl (Nat.le_of_ble_eq_true rfl) ⟨Nat.le_of_ble_eq_true rfl, Nat.le_of_ble_eq_true rfl, Nat.le_of_ble_eq_true rfl, Nat.le_of_ble_eq_true rfl⟩ (fun τ366 hr366 => ?_)
            have hz366 : zOK τ366 := hr366.1
            refine zy_istore [zf 9 0, zi mk, zi u, zi x, zi y, zi z, zi (D 12 0), zi (x % (D 12 0)), zi 1, zi 0, zi (dcs D), zi ((wP D (Ht D) : Nat) : Int), zi (-103), zu] dL_acts_369 (Nat.le_of_ble_eq_true rfl) (Nat.le_of_ble_eq_true rfl) rfl rfl ?_
            refine zx_iload dL_acts_371 rfl ?_
            refine zx_if_ne (tgt := 389) (by unfold zr; omega) dL_acts_373 (by decide) (fun h373 => ?_) (fun h373 => ?_)
            · exact absurd h373 (by decide)
            · refine zx_iload dL_acts_376 rfl ?_
              refine zx_bipush dL_acts_378 rfl ?_
              refine zx_icmp_ne (tgt := 387) (by first | exact hz366 _ _ | assumption | exact zr_b _ | exact zcmp_r _ _ | exact hzD _ _ | exact zr3 (tS_b hW _) | exact zr3 (lsc_b hW _ _) | exact zr3 (sc_b hW _ _) | exact rkP_zr hW _ | exact scA_zr hW _ _ | exact zr3 (cW_b hW) | exact zr3 (wS_b hW) | exact zr3 (wS_b hWn) | (unfold zr at *; omega)) (by first | exact hz366 _ _ | assumption | exact zr_b _ | exact zcmp_r _ _ | exact hzD _ _ | exact zr3 (tS_b hW _) | exact zr3 (lsc_b hW _ _) | exact zr3 (sc_b hW _ _) | exact rkP_zr hW _ | exact scA_zr hW _ _ | exact zr3 (cW_b hW) | exact zr3 (wS_b hW) | exact zr3 (wS_b hWn) | (unfold zr at *; omega)) dL_acts_380 (by decide) (fun h380 => ?_) (fun h380 => ?_)
              · exact absurd h380 (by decide)
              · refine zx_iconst dL_acts_383 ?_
                refine zx_goto (tgt := 388) dL_acts_384 (by decide) ?_
                refine zx_iret rfl rfl dL_acts_388 ?_
                rw [hQ]
                refine ⟨congrArg (fun z : Int => (Sum.inl (some (zi z)) : Option zV ⊕ String)) ?_, ?_⟩
                · first | rfl | assumption | omega
                exact AP_e (aB_3 hu.1 hu.2 (by omega)) (AP_f hW (zJ (zJ (zSame_rf _ _) hr343.2.1) hr349.2.1) hr366 (zSame_rf _ _) hz366 rfl)
          · refine zx_iconst dL_acts_335 ?_
            refine zx_goto (tgt := 340) dL_acts_336 (by decide) ?_
            refine zy_istore [zf 9 0, zi mk, zi u, zi x, zi y, zi z, zi (D 12 0), zi (x % (D 12 0)), zi 1, zi 1, zu, zu, zu, zu] dL_acts_340 (Nat.le_of_ble_eq_true rfl) (Nat.le_of_ble_eq_true rfl) rfl rfl ?_
            refine zx_aloadN dL_acts_342 rfl rfl ?_
            refine zy_cvR [] (fX9_decisiveClue  hfl hz hB hW hP1) dL_acts_343 (by decide) rfl cw_RL_221 okX9_decisiveClue rfl (Nat.le_of_ble_eq_true rfl) ⟨Nat.le_of_ble_eq_true rfl, Nat.le_of_ble_eq_true rfl, Nat.le_of_ble_eq_true rfl, Nat.le_of_ble_eq_true rfl⟩ (fun τ343 hr343 => ?_)
            have hz343 : zOK τ343 := hr343.1
            refine zy_istore [zf 9 0, zi mk, zi u, zi x, zi y, zi z, zi (D 12 0), zi (x % (D 12 0)), zi 1, zi 1, zi (dcs D), zu, zu, zu] dL_acts_346 (Nat.le_of_ble_eq_true rfl) (Nat.le_of_ble_eq_true rfl) rfl rfl ?_
            refine zx_aloadN dL_acts_348 rfl rfl ?_
            refine zy_cvR [] (fX9_verdictPrinter  hfl hz343 hr343.2.2 hW hP1) dL_acts_349 (by decide) rfl cw_RL_174 okX9_verdictPrinter rfl (Nat.le_of_ble_eq_true rfl) ⟨Nat.le_of_ble_eq_true rfl, Nat.le_of_ble_eq_true rfl, Nat.le_of_ble_eq_true rfl, Nat.le_of_ble_eq_true rfl⟩ (fun τ349 hr349 => ?_)
            have hz349 : zOK τ349 := hr349.1
            refine zy_istore [zf 9 0, zi mk, zi u, zi x, zi y, zi z, zi (D 12 0), zi (x % (D 12 0)), zi 1, zi 1, zi (dcs D), zi ((wP D (Ht D) : Nat) : Int), zu, zu] dL_acts_352 (Nat.le_of_ble_eq_true rfl) (Nat.le_of_ble_eq_true rfl) rfl rfl ?_
            refine zx_aloadN dL_acts_354 rfl rfl ?_
            refine zx_bipush dL_acts_355 rfl ?_
            refine zx_iload dL_acts_357 rfl ?_
            refine zx_iconst dL_acts_359 ?_
            refine zx_irem (by omega) (by omega) (by omega) (by omega) dL_acts_360 ?_
            refine zx_iadd dL_acts_361 ?_
            refine zy_top (b := 6) (by omega) ?_
            refine zx_iload dL_acts_362 rfl ?_
            refine zx_iconst dL_acts_364 ?_
            refine zx_iconst dL_acts_365 ?_
            refine zy_csHR [zf 9 0, zi 6, zi (x % (D 12 0)), zi 0, zi 0] (sL_does_setAside  hfl hz349 hr349.2.2 hW hP1 (HN_j hN (zJ (zJ (zSame_rf _ _) hr343.2.1) hr349.2.1)) (HBA_j hA (zJ (zJ (zSame_rf _ _) hr343.2.1) hr349.2.1)) (by first | assumption | omega) (by first | assumption | omega)) dL_acts_366 cw_RL_231 okL_does rfl (Nat.le_of_ble_eq_true rfl) ⟨Nat.le_of_ble_eq_true rfl, Nat.le_of_ble_eq_true rfl, Nat.le_of_ble_eq_true rfl, Nat.le_of_ble_eq_true rfl⟩ (fun τ366 hr366 => ?_)
            have hz366 : zOK τ366 := hr366.1
            have hl := hr366.2.2.2.2.2.2
            have hWn := hr366.2.2.2.2.2.1
            have hzDn := hzDof (rfl : bK τ366 = bK τ366) hz366
            obtain ⟨p12, p1, pv⟩ := ov_post hl (by omega) (by omega) (by omega)
            have hP1n : 1 ≤ (bK τ366) 1 0 := by rw [p1]; exact hP1
            have hwln : (wP (bK τ366) (Ht (bK τ366)) : Int) < (bK τ366) 1 0 := wP_l hWn hP1n
            have eS := wS_t (lEq_sy hl) hWn hP1n
            have hzS : zr (wS (ov D 18 (x % D 12 0).toNat 1) (Ht (ov D 18 (x % D 12 0).toNat 1))) := by rw [eS]; exact zr3 (wS_b hWn)
            refine zy_istore [zf 9 0, zi mk, zi u, zi x, zi y, zi z, zi (D 12 0), zi (x % (D 12 0)), zi 1, zi 1, zi (dcs D), zi ((wP D (Ht D) : Nat) : Int), zi (wS (ov D 18 (x % (D 12 0)).toNat 1) (Ht (ov D 18 (x % (D 12 0)).toNat 1))), zu] dL_acts_369 (Nat.le_of_ble_eq_true rfl) (Nat.le_of_ble_eq_true rfl) rfl rfl ?_
            refine zx_iload dL_acts_371 rfl ?_
            refine zx_if_ne (tgt := 389) (by unfold zr; omega) dL_acts_373 (by decide) (fun h373 => ?_) (fun h373 => ?_)
            · refine zx_iload dL_acts_389 rfl ?_
              refine zx_aloadN dL_acts_391 rfl rfl ?_
              refine zy_cvR [] (fX9_verdictScore  hfl hz366 rfl hr366.2.2.2.2.2.1 hP1n) dL_acts_392 (by decide) rfl cw_RL_189 okX9_verdictScore rfl (Nat.le_of_ble_eq_true rfl) ⟨Nat.le_of_ble_eq_true rfl, Nat.le_of_ble_eq_true rfl, Nat.le_of_ble_eq_true rfl, Nat.le_of_ble_eq_true rfl⟩ (fun τ392 hr392 => ?_)
              have hz392 : zOK τ392 := hr392.1
              refine zy_top (b := wS (ov D 18 (x % D 12 0).toNat 1) (Ht (ov D 18 (x % D 12 0).toNat 1))) (eS.symm) ?_
              refine zx_icmp_ne (tgt := 434) (by first | exact hz392 _ _ | assumption | exact zr_b _ | exact zcmp_r _ _ | exact hzD _ _ | exact zr3 (tS_b hW _) | exact zr3 (lsc_b hW _ _) | exact zr3 (sc_b hW _ _) | exact rkP_zr hW _ | exact scA_zr hW _ _ | exact zr3 (cW_b hW) | exact zr3 (wS_b hW) | exact zr3 (wS_b hWn) | (unfold zr at *; omega)) (by first | exact hz392 _ _ | assumption | exact zr_b _ | exact zcmp_r _ _ | exact hzD _ _ | exact zr3 (tS_b hW _) | exact zr3 (lsc_b hW _ _) | exact zr3 (sc_b hW _ _) | exact rkP_zr hW _ | exact scA_zr hW _ _ | exact zr3 (cW_b hW) | exact zr3 (wS_b hW) | exact zr3 (wS_b hWn) | (unfold zr at *; omega)) dL_acts_395 (by decide) (fun h395 => ?_) (fun h395 => ?_)
              · exfalso
                first
                | exact absurd rfl h395
                | (have d := dcs_in (D := D) (by omega)
                   have e : wP (ov D 18 (x % D 12 0).toNat 1) (Ht (ov D 18 (x % D 12 0).toNat 1)) = wP (bK τ366) (Ht (bK τ366)) := wP_t (lEq_sy hl) hWn
                   have e2 := wP_as hW (x % D 12 0).toNat
                   have e3 : dcs D = (((x % D 12 0).toNat : Nat) : Int) := by omega
                   rw [e3] at d
                   exact d.2.2 (by rw [← e2, e]; omega))
              · refine zx_aloadN dL_acts_398 rfl rfl ?_
                refine zx_iload dL_acts_399 rfl ?_
                refine zy_cv [zi (x % (D 12 0))] (fX9_isAside  hfl hz392 hr392.2.2 hr366.2.2.2.2.2.1 (by first | exact hz392 _ _ | assumption | exact zr_b _ | exact zcmp_r _ _ | exact hzD _ _ | exact zr3 (tS_b hW _) | exact zr3 (lsc_b hW _ _) | exact zr3 (sc_b hW _ _) | exact rkP_zr hW _ | exact scA_zr hW _ _ | exact zr3 (cW_b hW) | exact zr3 (wS_b hW) | exact zr3 (wS_b hWn) | (unfold zr at *; omega)) (by first | assumption | omega)) dL_acts_401 (by decide) rfl cw_RL_128 okX9_isAside rfl (Nat.le_of_ble_eq_true rfl) ⟨Nat.le_of_ble_eq_true rfl, Nat.le_of_ble_eq_true rfl, Nat.le_of_ble_eq_true rfl, Nat.le_of_ble_eq_true rfl⟩ ?_
                refine zy_top (b := 1) (pv) ?_
                refine zx_iload dL_acts_404 rfl ?_
                refine zx_icmp_ne (tgt := 434) (by first | exact hz392 _ _ | assumption | exact zr_b _ | exact zcmp_r _ _ | exact hzD _ _ | exact zr3 (tS_b hW _) | exact zr3 (lsc_b hW _ _) | exact zr3 (sc_b hW _ _) | exact rkP_zr hW _ | exact scA_zr hW _ _ | exact zr3 (cW_b hW) | exact zr3 (wS_b hW) | exact zr3 (wS_b hWn) | (unfold zr at *; omega)) (by first | exact hz392 _ _ | assumption | exact zr_b _ | exact zcmp_r _ _ | exact hzD _ _ | exact zr3 (tS_b hW _) | exact zr3 (lsc_b hW _ _) | exact zr3 (sc_b hW _ _) | exact rkP_zr hW _ | exact scA_zr hW _ _ | exact zr3 (cW_b hW) | exact zr3 (wS_b hW) | exact zr3 (wS_b hWn) | (unfold zr at *; omega)) dL_acts_406 (by decide) (fun h406 => ?_) (fun h406 => ?_)
                · exact absurd h406 (by decide)
                · refine zx_iload dL_acts_409 rfl ?_
                  refine zx_if_eq (tgt := 430) (by unfold zr; omega) dL_acts_411 (by decide) (fun h411 => ?_) (fun h411 => ?_)
                  · exact absurd h411 (by decide)
                  · refine zx_iload dL_acts_414 rfl ?_
                    refine zx_iload dL_acts_416 rfl ?_
                    refine zx_icmp_ne (tgt := 430) (by first | exact hz392 _ _ | assumption | exact zr_b _ | exact zcmp_r _ _ | exact hzD _ _ | exact zr3 (tS_b hW _) | exact zr3 (lsc_b hW _ _) | exact zr3 (sc_b hW _ _) | exact rkP_zr hW _ | exact scA_zr hW _ _ | exact zr3 (cW_b hW) | exact zr3 (wS_b hW) | exact zr3 (wS_b hWn) | (unfold zr at *; omega)) (by first | exact hz392 _ _ | assumption | exact zr_b _ | exact zcmp_r _ _ | exact hzD _ _ | exact zr3 (tS_b hW _) | exact zr3 (lsc_b hW _ _) | exact zr3 (sc_b hW _ _) | exact rkP_zr hW _ | exact scA_zr hW _ _ | exact zr3 (cW_b hW) | exact zr3 (wS_b hW) | exact zr3 (wS_b hWn) | (unfold zr at *; omega)) dL_acts_418 (by decide) (fun h418 => ?_) (fun h418 => ?_)
                    · refine zx_iconst dL_acts_430 ?_
                      refine zx_goto (tgt := 435) dL_acts_431 (by decide) ?_
                      refine zx_iret rfl rfl dL_acts_435 ?_
                      rw [hQ]
                      refine ⟨congrArg (fun z : Int => (Sum.inl (some (zi z)) : Option zV ⊕ String)) ?_, ?_⟩
                      · first | rfl | assumption | omega
                      exact AP_e (aB_4 hu.1 hu.2 (by omega) (by omega)) (AP_d (zJ (zJ (zSame_rf _ _) hr343.2.1) hr349.2.1) hr366 (zJ (zSame_rf _ _) hr392.2.1) hz392)
                    · refine zx_aloadN dL_acts_421 rfl rfl ?_
                      refine zy_cvR [] (fX9_verdictPrinter  hfl hz392 hr392.2.2 hr366.2.2.2.2.2.1 hP1n) dL_acts_422 (by decide) rfl cw_RL_174 okX9_verdictPrinter rfl (Nat.le_of_ble_eq_true rfl) ⟨Nat.le_of_ble_eq_true rfl, Nat.le_of_ble_eq_true rfl, Nat.le_of_ble_eq_true rfl, Nat.le_of_ble_eq_true rfl⟩ (fun τ422 hr422 => ?_)
                      have hz422 : zOK τ422 := hr422.1
                      refine zx_iload dL_acts_425 rfl ?_
                      refine zx_icmp_eq (tgt := 434) (by first | exact hz422 _ _ | assumption | exact zr_b _ | exact zcmp_r _ _ | exact hzD _ _ | exact zr3 (tS_b hW _) | exact zr3 (lsc_b hW _ _) | exact zr3 (sc_b hW _ _) | exact rkP_zr hW _ | exact scA_zr hW _ _ | exact zr3 (cW_b hW) | exact zr3 (wS_b hW) | exact zr3 (wS_b hWn) | (unfold zr at *; omega)) (by first | exact hz422 _ _ | assumption | exact zr_b _ | exact zcmp_r _ _ | exact hzD _ _ | exact zr3 (tS_b hW _) | exact zr3 (lsc_b hW _ _) | exact zr3 (sc_b hW _ _) | exact rkP_zr hW _ | exact scA_zr hW _ _ | exact zr3 (cW_b hW) | exact zr3 (wS_b hW) | exact zr3 (wS_b hWn) | (unfold zr at *; omega)) dL_acts_427 (by decide) (fun h427 => ?_) (fun h427 => ?_)
                      · exfalso
                        first
                        | exact absurd rfl h395
                        | (have d := dcs_in (D := D) (by omega)
                           have e : wP (ov D 18 (x % D 12 0).toNat 1) (Ht (ov D 18 (x % D 12 0).toNat 1)) = wP (bK τ366) (Ht (bK τ366)) := wP_t (lEq_sy hl) hWn
                           have e2 := wP_as hW (x % D 12 0).toNat
                           have e3 : dcs D = (((x % D 12 0).toNat : Nat) : Int) := by omega
                           rw [e3] at d
                           exact d.2.2 (by rw [← e2, e]; omega))
                      · refine zx_iconst dL_acts_430 ?_
                        refine zx_goto (tgt := 435) dL_acts_431 (by decide) ?_
                        refine zx_iret rfl rfl dL_acts_435 ?_
                        rw [hQ]
                        refine ⟨congrArg (fun z : Int => (Sum.inl (some (zi z)) : Option zV ⊕ String)) ?_, ?_⟩
                        · first | rfl | assumption | omega
                        exact AP_e (aB_4 hu.1 hu.2 (by omega) (by omega)) (AP_d (zJ (zJ (zSame_rf _ _) hr343.2.1) hr349.2.1) hr366 (zJ (zJ (zSame_rf _ _) hr392.2.1) hr422.2.1) hz422)
            · exact absurd h373 (by decide)
      · refine zx_aloadN dL_acts_285 rfl rfl ?_
        refine zx_bipush dL_acts_286 rfl ?_
        refine zx_iload dL_acts_288 rfl ?_
        refine zx_iconst dL_acts_290 ?_
        refine zx_irem (by omega) (by omega) (by omega) (by omega) dL_acts_291 ?_
        refine zx_iadd dL_acts_292 ?_
        refine zy_top (b := 6) (by omega) ?_
        refine zx_iconst dL_acts_293 ?_
        refine zx_iconst dL_acts_294 ?_
        refine zx_iconst dL_acts_295 ?_
        refine zy_csHR [zf 9 0, zi 6, zi 0, zi 0, zi 0] (sL_does_setAside_f1  hfl hz hB hW (HN_j hN (zSame_rf _ _)) (HBA_j hA (zSame_rf _ _)) (by first | assumption | omega)) dL_acts_296 cw_RL_231 okL_does rfl (Nat.le_of_ble_eq_true rfl) ⟨Nat.le_of_ble_eq_true rfl, Nat.le_of_ble_eq_true rfl, Nat.le_of_ble_eq_true rfl, Nat.le_of_ble_eq_true rfl⟩ (fun τ296 hr296 => ?_)
        have hz296 : zOK τ296 := hr296.1
        refine zx_bipush dL_acts_299 rfl ?_
        refine zx_icmp_ne (tgt := 308) (by first | exact hz296 _ _ | assumption | exact zr_b _ | exact zcmp_r _ _ | exact hzD _ _ | exact zr3 (tS_b hW _) | exact zr3 (lsc_b hW _ _) | exact zr3 (sc_b hW _ _) | exact rkP_zr hW _ | exact scA_zr hW _ _ | exact zr3 (cW_b hW) | exact zr3 (wS_b hW) | exact zr3 (wS_b hWn) | (unfold zr at *; omega)) (by first | exact hz296 _ _ | assumption | exact zr_b _ | exact zcmp_r _ _ | exact hzD _ _ | exact zr3 (tS_b hW _) | exact zr3 (lsc_b hW _ _) | exact zr3 (sc_b hW _ _) | exact rkP_zr hW _ | exact scA_zr hW _ _ | exact zr3 (cW_b hW) | exact zr3 (wS_b hW) | exact zr3 (wS_b hWn) | (unfold zr at *; omega)) dL_acts_301 (by decide) (fun h301 => ?_) (fun h301 => ?_)
        · exact absurd h301 (by decide)
        · refine zx_iconst dL_acts_304 ?_
          refine zx_goto (tgt := 309) dL_acts_305 (by decide) ?_
          refine zx_iret rfl rfl dL_acts_309 ?_
          rw [hQ]
          refine ⟨congrArg (fun z : Int => (Sum.inl (some (zi z)) : Option zV ⊕ String)) ?_, ?_⟩
          · first | rfl | assumption | omega
          exact AP_e (aB_3 hu.1 hu.2 (by omega)) (AP_f hW (zSame_rf _ _) hr296 (zSame_rf _ _) hz296 rfl)
    rcases (by omega : u = 0 ∨ u = 1 ∨ u = 2 ∨ u = 3 ∨ u = 4 ∨ u = 5 ∨ u = 6 ∨ u = 7 ∨ u = 8 ∨ (u < 0 ∨ 8 < u)) with h22 | h22 | h22 | h22 | h22 | h22 | h22 | h22 | h22 | h22
    · refine zx_tableIn (off := 50) (tgt := 72) (by first | exact hz _ _ | assumption | exact zr_b _ | exact zcmp_r _ _ | exact hzD _ _ | exact zr3 (tS_b hW _) | exact zr3 (lsc_b hW _ _) | exact zr3 (sc_b hW _ _) | exact rkP_zr hW _ | exact scA_zr hW _ _ | exact zr3 (cW_b hW) | exact zr3 (wS_b hW) | exact zr3 (wS_b hWn) | (unfold zr at *; omega)) dL_acts_22 (by omega) (by omega) (by rw [h22]; rfl) (by decide) ?_
      exfalso; omega
    · refine zx_tableIn (off := 50) (tgt := 72) (by first | exact hz _ _ | assumption | exact zr_b _ | exact zcmp_r _ _ | exact hzD _ _ | exact zr3 (tS_b hW _) | exact zr3 (lsc_b hW _ _) | exact zr3 (sc_b hW _ _) | exact rkP_zr hW _ | exact scA_zr hW _ _ | exact zr3 (cW_b hW) | exact zr3 (wS_b hW) | exact zr3 (wS_b hWn) | (unfold zr at *; omega)) dL_acts_22 (by omega) (by omega) (by rw [h22]; rfl) (by decide) ?_
      exfalso; omega
    · refine zx_tableIn (off := 50) (tgt := 72) (by first | exact hz _ _ | assumption | exact zr_b _ | exact zcmp_r _ _ | exact hzD _ _ | exact zr3 (tS_b hW _) | exact zr3 (lsc_b hW _ _) | exact zr3 (sc_b hW _ _) | exact rkP_zr hW _ | exact scA_zr hW _ _ | exact zr3 (cW_b hW) | exact zr3 (wS_b hW) | exact zr3 (wS_b hWn) | (unfold zr at *; omega)) dL_acts_22 (by omega) (by omega) (by rw [h22]; rfl) (by decide) ?_
      exfalso; omega
    · refine zx_tableIn (off := 247) (tgt := 269) (by first | exact hz _ _ | assumption | exact zr_b _ | exact zcmp_r _ _ | exact hzD _ _ | exact zr3 (tS_b hW _) | exact zr3 (lsc_b hW _ _) | exact zr3 (sc_b hW _ _) | exact rkP_zr hW _ | exact scA_zr hW _ _ | exact zr3 (cW_b hW) | exact zr3 (wS_b hW) | exact zr3 (wS_b hWn) | (unfold zr at *; omega)) dL_acts_22 (by omega) (by omega) (by rw [h22]; rfl) (by decide) ?_
      exfalso; omega
    · refine zx_tableIn (off := 247) (tgt := 269) (by first | exact hz _ _ | assumption | exact zr_b _ | exact zcmp_r _ _ | exact hzD _ _ | exact zr3 (tS_b hW _) | exact zr3 (lsc_b hW _ _) | exact zr3 (sc_b hW _ _) | exact rkP_zr hW _ | exact scA_zr hW _ _ | exact zr3 (cW_b hW) | exact zr3 (wS_b hW) | exact zr3 (wS_b hWn) | (unfold zr at *; omega)) dL_acts_22 (by omega) (by omega) (by rw [h22]; rfl) (by decide) ?_
      exfalso; omega
    · refine zx_tableIn (off := 258) (tgt := 280) (by first | exact hz _ _ | assumption | exact zr_b _ | exact zcmp_r _ _ | exact hzD _ _ | exact zr3 (tS_b hW _) | exact zr3 (lsc_b hW _ _) | exact zr3 (sc_b hW _ _) | exact rkP_zr hW _ | exact scA_zr hW _ _ | exact zr3 (cW_b hW) | exact zr3 (wS_b hW) | exact zr3 (wS_b hWn) | (unfold zr at *; omega)) dL_acts_22 (by omega) (by omega) (by rw [h22]; rfl) (by decide) ?_
      exact J280
    · refine zx_tableIn (off := 258) (tgt := 280) (by first | exact hz _ _ | assumption | exact zr_b _ | exact zcmp_r _ _ | exact hzD _ _ | exact zr3 (tS_b hW _) | exact zr3 (lsc_b hW _ _) | exact zr3 (sc_b hW _ _) | exact rkP_zr hW _ | exact scA_zr hW _ _ | exact zr3 (cW_b hW) | exact zr3 (wS_b hW) | exact zr3 (wS_b hWn) | (unfold zr at *; omega)) dL_acts_22 (by omega) (by omega) (by rw [h22]; rfl) (by decide) ?_
      exact J280
    · refine zx_tableIn (off := 414) (tgt := 436) (by first | exact hz _ _ | assumption | exact zr_b _ | exact zcmp_r _ _ | exact hzD _ _ | exact zr3 (tS_b hW _) | exact zr3 (lsc_b hW _ _) | exact zr3 (sc_b hW _ _) | exact rkP_zr hW _ | exact scA_zr hW _ _ | exact zr3 (cW_b hW) | exact zr3 (wS_b hW) | exact zr3 (wS_b hWn) | (unfold zr at *; omega)) dL_acts_22 (by omega) (by omega) (by rw [h22]; rfl) (by decide) ?_
      exfalso; omega
    · refine zx_tableIn (off := 490) (tgt := 512) (by first | exact hz _ _ | assumption | exact zr_b _ | exact zcmp_r _ _ | exact hzD _ _ | exact zr3 (tS_b hW _) | exact zr3 (lsc_b hW _ _) | exact zr3 (sc_b hW _ _) | exact rkP_zr hW _ | exact scA_zr hW _ _ | exact zr3 (cW_b hW) | exact zr3 (wS_b hW) | exact zr3 (wS_b hWn) | (unfold zr at *; omega)) dL_acts_22 (by omega) (by omega) (by rw [h22]; rfl) (by decide) ?_
      exfalso; omega
    · refine zx_tableOut (tgt := 682) (by first | exact hz _ _ | assumption | exact zr_b _ | exact zcmp_r _ _ | exact hzD _ _ | exact zr3 (tS_b hW _) | exact zr3 (lsc_b hW _ _) | exact zr3 (sc_b hW _ _) | exact rkP_zr hW _ | exact scA_zr hW _ _ | exact zr3 (cW_b hW) | exact zr3 (wS_b hW) | exact zr3 (wS_b hWn) | (unfold zr at *; omega)) dL_acts_22 (by omega) (by decide) ?_
      exfalso; omega
  · refine zx_iconst dL_acts_11 ?_
    refine zx_goto (tgt := 19) dL_acts_12 (by decide) ?_
    refine zy_istore [zf 9 0, zi mk, zi u, zi x, zi y, zi z, zi (D 12 0), zi 0, zu, zu, zu, zu, zu, zu] dL_acts_19 (Nat.le_of_ble_eq_true rfl) (Nat.le_of_ble_eq_true rfl) rfl rfl ?_
    refine zx_iloadN dL_acts_21 rfl rfl ?_
    have J280 : zX l w mL_acts (zMQ w 12 1 Q) 280 [zf 9 0, zi mk, zi u, zi x, zi y, zi z, zi (D 12 0), zi 0, zu, zu, zu, zu, zu, zu] [] 0 σ := by
      refine zx_iload dL_acts_280 rfl ?_
      refine zx_if_ne (tgt := 310) (by first | exact hz _ _ | assumption | exact zr_b _ | exact zcmp_r _ _ | exact hzD _ _ | exact zr3 (tS_b hW _) | exact zr3 (lsc_b hW _ _) | exact zr3 (sc_b hW _ _) | exact rkP_zr hW _ | exact scA_zr hW _ _ | exact zr3 (cW_b hW) | exact zr3 (wS_b hW) | exact zr3 (wS_b hWn) | (unfold zr at *; omega)) dL_acts_282 (by decide) (fun h282 => ?_) (fun h282 => ?_)
      · exfalso; omega
      · refine zx_aloadN dL_acts_285 rfl rfl ?_
        refine zx_bipush dL_acts_286 rfl ?_
        refine zx_iload dL_acts_288 rfl ?_
        refine zx_iconst dL_acts_290 ?_
        refine zx_irem (by omega) (by omega) (by omega) (by omega) dL_acts_291 ?_
        refine zx_iadd dL_acts_292 ?_
        refine zy_top (b := 6) (by omega) ?_
        refine zx_iconst dL_acts_293 ?_
        refine zx_iconst dL_acts_294 ?_
        refine zx_iconst dL_acts_295 ?_
        refine zy_csHR [zf 9 0, zi 6, zi 0, zi 0, zi 0] (sL_does_setAside_f1  hfl hz hB hW (HN_j hN (zSame_rf _ _)) (HBA_j hA (zSame_rf _ _)) (by first | assumption | omega)) dL_acts_296 cw_RL_231 okL_does rfl (Nat.le_of_ble_eq_true rfl) ⟨Nat.le_of_ble_eq_true rfl, Nat.le_of_ble_eq_true rfl, Nat.le_of_ble_eq_true rfl, Nat.le_of_ble_eq_true rfl⟩ (fun τ296 hr296 => ?_)
        have hz296 : zOK τ296 := hr296.1
        refine zx_bipush dL_acts_299 rfl ?_
        refine zx_icmp_ne (tgt := 308) (by first | exact hz296 _ _ | assumption | exact zr_b _ | exact zcmp_r _ _ | exact hzD _ _ | exact zr3 (tS_b hW _) | exact zr3 (lsc_b hW _ _) | exact zr3 (sc_b hW _ _) | exact rkP_zr hW _ | exact scA_zr hW _ _ | exact zr3 (cW_b hW) | exact zr3 (wS_b hW) | exact zr3 (wS_b hWn) | (unfold zr at *; omega)) (by first | exact hz296 _ _ | assumption | exact zr_b _ | exact zcmp_r _ _ | exact hzD _ _ | exact zr3 (tS_b hW _) | exact zr3 (lsc_b hW _ _) | exact zr3 (sc_b hW _ _) | exact rkP_zr hW _ | exact scA_zr hW _ _ | exact zr3 (cW_b hW) | exact zr3 (wS_b hW) | exact zr3 (wS_b hWn) | (unfold zr at *; omega)) dL_acts_301 (by decide) (fun h301 => ?_) (fun h301 => ?_)
        · exact absurd h301 (by decide)
        · refine zx_iconst dL_acts_304 ?_
          refine zx_goto (tgt := 309) dL_acts_305 (by decide) ?_
          refine zx_iret rfl rfl dL_acts_309 ?_
          rw [hQ]
          refine ⟨congrArg (fun z : Int => (Sum.inl (some (zi z)) : Option zV ⊕ String)) ?_, ?_⟩
          · first | rfl | assumption | omega
          exact AP_e (aB_3 hu.1 hu.2 (by omega)) (AP_f hW (zSame_rf _ _) hr296 (zSame_rf _ _) hz296 rfl)
    rcases (by omega : u = 0 ∨ u = 1 ∨ u = 2 ∨ u = 3 ∨ u = 4 ∨ u = 5 ∨ u = 6 ∨ u = 7 ∨ u = 8 ∨ (u < 0 ∨ 8 < u)) with h22 | h22 | h22 | h22 | h22 | h22 | h22 | h22 | h22 | h22
    · refine zx_tableIn (off := 50) (tgt := 72) (by first | exact hz _ _ | assumption | exact zr_b _ | exact zcmp_r _ _ | exact hzD _ _ | exact zr3 (tS_b hW _) | exact zr3 (lsc_b hW _ _) | exact zr3 (sc_b hW _ _) | exact rkP_zr hW _ | exact scA_zr hW _ _ | exact zr3 (cW_b hW) | exact zr3 (wS_b hW) | exact zr3 (wS_b hWn) | (unfold zr at *; omega)) dL_acts_22 (by omega) (by omega) (by rw [h22]; rfl) (by decide) ?_
      exfalso; omega
    · refine zx_tableIn (off := 50) (tgt := 72) (by first | exact hz _ _ | assumption | exact zr_b _ | exact zcmp_r _ _ | exact hzD _ _ | exact zr3 (tS_b hW _) | exact zr3 (lsc_b hW _ _) | exact zr3 (sc_b hW _ _) | exact rkP_zr hW _ | exact scA_zr hW _ _ | exact zr3 (cW_b hW) | exact zr3 (wS_b hW) | exact zr3 (wS_b hWn) | (unfold zr at *; omega)) dL_acts_22 (by omega) (by omega) (by rw [h22]; rfl) (by decide) ?_
      exfalso; omega
    · refine zx_tableIn (off := 50) (tgt := 72) (by first | exact hz _ _ | assumption | exact zr_b _ | exact zcmp_r _ _ | exact hzD _ _ | exact zr3 (tS_b hW _) | exact zr3 (lsc_b hW _ _) | exact zr3 (sc_b hW _ _) | exact rkP_zr hW _ | exact scA_zr hW _ _ | exact zr3 (cW_b hW) | exact zr3 (wS_b hW) | exact zr3 (wS_b hWn) | (unfold zr at *; omega)) dL_acts_22 (by omega) (by omega) (by rw [h22]; rfl) (by decide) ?_
      exfalso; omega
    · refine zx_tableIn (off := 247) (tgt := 269) (by first | exact hz _ _ | assumption | exact zr_b _ | exact zcmp_r _ _ | exact hzD _ _ | exact zr3 (tS_b hW _) | exact zr3 (lsc_b hW _ _) | exact zr3 (sc_b hW _ _) | exact rkP_zr hW _ | exact scA_zr hW _ _ | exact zr3 (cW_b hW) | exact zr3 (wS_b hW) | exact zr3 (wS_b hWn) | (unfold zr at *; omega)) dL_acts_22 (by omega) (by omega) (by rw [h22]; rfl) (by decide) ?_
      exfalso; omega
    · refine zx_tableIn (off := 247) (tgt := 269) (by first | exact hz _ _ | assumption | exact zr_b _ | exact zcmp_r _ _ | exact hzD _ _ | exact zr3 (tS_b hW _) | exact zr3 (lsc_b hW _ _) | exact zr3 (sc_b hW _ _) | exact rkP_zr hW _ | exact scA_zr hW _ _ | exact zr3 (cW_b hW) | exact zr3 (wS_b hW) | exact zr3 (wS_b hWn) | (unfold zr at *; omega)) dL_acts_22 (by omega) (by omega) (by rw [h22]; rfl) (by decide) ?_
      exfalso; omega
    · refine zx_tableIn (off := 258) (tgt := 280) (by first | exact hz _ _ | assumption | exact zr_b _ | exact zcmp_r _ _ | exact hzD _ _ | exact zr3 (tS_b hW _) | exact zr3 (lsc_b hW _ _) | exact zr3 (sc_b hW _ _) | exact rkP_zr hW _ | exact scA_zr hW _ _ | exact zr3 (cW_b hW) | exact zr3 (wS_b hW) | exact zr3 (wS_b hWn) | (unfold zr at *; omega)) dL_acts_22 (by omega) (by omega) (by rw [h22]; rfl) (by decide) ?_
      exact J280
    · refine zx_tableIn (off := 258) (tgt := 280) (by first | exact hz _ _ | assumption | exact zr_b _ | exact zcmp_r _ _ | exact hzD _ _ | exact zr3 (tS_b hW _) | exact zr3 (lsc_b hW _ _) | exact zr3 (sc_b hW _ _) | exact rkP_zr hW _ | exact scA_zr hW _ _ | exact zr3 (cW_b hW) | exact zr3 (wS_b hW) | exact zr3 (wS_b hWn) | (unfold zr at *; omega)) dL_acts_22 (by omega) (by omega) (by rw [h22]; rfl) (by decide) ?_
      exact J280
    · refine zx_tableIn (off := 414) (tgt := 436) (by first | exact hz _ _ | assumption | exact zr_b _ | exact zcmp_r _ _ | exact hzD _ _ | exact zr3 (tS_b hW _) | exact zr3 (lsc_b hW _ _) | exact zr3 (sc_b hW _ _) | exact rkP_zr hW _ | exact scA_zr hW _ _ | exact zr3 (cW_b hW) | exact zr3 (wS_b hW) | exact zr3 (wS_b hWn) | (unfold zr at *; omega)) dL_acts_22 (by omega) (by omega) (by rw [h22]; rfl) (by decide) ?_
      exfalso; omega
    · refine zx_tableIn (off := 490) (tgt := 512) (by first | exact hz _ _ | assumption | exact zr_b _ | exact zcmp_r _ _ | exact hzD _ _ | exact zr3 (tS_b hW _) | exact zr3 (lsc_b hW _ _) | exact zr3 (sc_b hW _ _) | exact rkP_zr hW _ | exact scA_zr hW _ _ | exact zr3 (cW_b hW) | exact zr3 (wS_b hW) | exact zr3 (wS_b hWn) | (unfold zr at *; omega)) dL_acts_22 (by omega) (by omega) (by rw [h22]; rfl) (by decide) ?_
      exfalso; omega
    · refine zx_tableOut (tgt := 682) (by first | exact hz _ _ | assumption | exact zr_b _ | exact zcmp_r _ _ | exact hzD _ _ | exact zr3 (tS_b hW _) | exact zr3 (lsc_b hW _ _) | exact zr3 (sc_b hW _ _) | exact rkP_zr hW _ | exact scA_zr hW _ _ | exact zr3 (cW_b hW) | exact zr3 (wS_b hW) | exact zr3 (wS_b hWn) | (unfold zr at *; omega)) dL_acts_22 (by omega) (by decide) ?_
      exfalso; omega
set_option maxRecDepth 20000 in
set_option maxHeartbeats 2000000 in
theorem sL_acts_d {l : Launch} {w : zW} (hfl : l.stackTraces = false) {σ : zS} {D : zBk} {mk u x y z : Int} (hz : zOK σ) (hB : bK σ = D) (hW : WF D) (hP1 : 1 ≤ D 1 0) (hN : HN σ) (hA : HBA σ) (hu : 5 ≤ u ∧ u ≤ 6) (hy2 : y % 2 = 1) (hm : D 1 7 = mk) (hmb : 0 ≤ mk ∧ mk ≤ 2) (hx : 0 ≤ x ∧ x ≤ 99999) (hy : 0 ≤ y ∧ y ≤ 99999) (hzz : 0 ≤ z ∧ z ≤ 99999) : Sp l w mL_acts 12 1 [zf 9 0, zi mk, zi u, zi x, zi y, zi z] σ (zqv (some (zi 1)) (fun τ => AP σ τ D (aB mk u x y z D))) := by
  obtain ⟨Q, hQ⟩ : ∃ Q : zQ, Q = (zqv (some (zi 1)) (fun τ => AP σ τ D (aB mk u x y z D))) := ⟨_, rfl⟩
  rw [← hQ]
  refine zx_enter hfl (by decide) rfl 8 rfl ?_
  show zX l w mL_acts (zMQ w 12 1 Q) 0 [zf 9 0, zi mk, zi u, zi x, zi y, zi z, zu, zu, zu, zu, zu, zu, zu, zu] [] 0 σ
  have hzD := hzDof hB hz
  have hn1 : 0 ≤ D 1 0 ∧ D 1 0 ≤ 8 := hW.1.1
  have hn12 : 0 ≤ D 12 0 ∧ D 12 0 ≤ 40 := hW.1.2.2.2
  have hwl : (wP D (Ht D) : Int) < D 1 0 := wP_l hW hP1
  have hwy := wY_b hW hP1
  have hws := wS_b hW
  have q5 : 0 ≤ y % 5 ∧ y % 5 < 5 := by omega
  have q0 : D 12 0 ≠ 0 → 0 ≤ x % D 12 0 := fun q => Int.emod_nonneg _ q
  have q1 : D 12 0 ≠ 0 → x % D 12 0 < D 12 0 := fun q => Int.emod_lt_of_pos _ (by omega)
  have q2 : 0 ≤ x % D 1 0 := Int.emod_nonneg _ (by omega)
  have q3 : x % D 1 0 < D 1 0 := Int.emod_lt_of_pos _ (by omega)
  have q4 : 0 ≤ y % D 1 0 := Int.emod_nonneg _ (by omega)
  have q6 : y % D 1 0 < D 1 0 := Int.emod_lt_of_pos _ (by omega)
  refine zx_aloadN dL_acts_0 rfl rfl ?_
  refine zy_cv [] (fX9_clueCount  hfl hz hB hW) dL_acts_1 (by decide) rfl cw_RL_98 okX9_clueCount rfl (Nat.le_of_ble_eq_true rfl) ⟨Nat.le_of_ble_eq_true rfl, Nat.le_of_ble_eq_true rfl, Nat.le_of_ble_eq_true rfl, Nat.le_of_ble_eq_true rfl⟩ ?_
  refine zy_istore [zf 9 0, zi mk, zi u, zi x, zi y, zi z, zi (D 12 0), zu, zu, zu, zu, zu, zu, zu] dL_acts_4 (Nat.le_of_ble_eq_true rfl) (Nat.le_of_ble_eq_true rfl) rfl rfl ?_
  refine zx_iload dL_acts_6 rfl ?_
  refine zx_if_ne (tgt := 15) (by first | exact hz _ _ | assumption | exact zr_b _ | exact zcmp_r _ _ | exact hzD _ _ | exact zr3 (tS_b hW _) | exact zr3 (lsc_b hW _ _) | exact zr3 (sc_b hW _ _) | exact rkP_zr hW _ | exact scA_zr hW _ _ | exact zr3 (cW_b hW) | exact zr3 (wS_b hW) | exact zr3 (wS_b hWn) | (unfold zr at *; omega)) dL_acts_8 (by decide) (fun h8 => ?_) (fun h8 => ?_)
  · refine zx_iloadN dL_acts_15 rfl rfl ?_
    refine zx_iload dL_acts_16 rfl ?_
    refine zx_irem (by omega) (by omega) (by omega) (by omega) dL_acts_18 ?_
    refine zy_istore [zf 9 0, zi mk, zi u, zi x, zi y, zi z, zi (D 12 0), zi (x % (D 12 0)), zu, zu, zu, zu, zu, zu] dL_acts_19 (Nat.le_of_ble_eq_true rfl) (Nat.le_of_ble_eq_true rfl) rfl rfl ?_
    refine zx_iloadN dL_acts_21 rfl rfl ?_
    have J280 : zX l w mL_acts (zMQ w 12 1 Q) 280 [zf 9 0, zi mk, zi u, zi x, zi y, zi z, zi (D 12 0), zi (x % (D 12 0)), zu, zu, zu, zu, zu, zu] [] 0 σ := by
      refine zx_iload dL_acts_280 rfl ?_
      refine zx_if_ne (tgt := 310) (by first | exact hz _ _ | assumption | exact zr_b _ | exact zcmp_r _ _ | exact hzD _ _ | exact zr3 (tS_b hW _) | exact zr3 (lsc_b hW _ _) | exact zr3 (sc_b hW _ _) | exact rkP_zr hW _ | exact scA_zr hW _ _ | exact zr3 (cW_b hW) | exact zr3 (wS_b hW) | exact zr3 (wS_b hWn) | (unfold zr at *; omega)) dL_acts_282 (by decide) (fun h282 => ?_) (fun h282 => ?_)
      · refine zx_iload dL_acts_310 rfl ?_
        refine zx_iconst dL_acts_312 ?_
        refine zx_irem (by omega) (by omega) (by omega) (by omega) dL_acts_313 ?_
        refine zx_if_ne (tgt := 321) (by first | exact hz _ _ | assumption | exact zr_b _ | exact zcmp_r _ _ | exact hzD _ _ | exact zr3 (tS_b hW _) | exact zr3 (lsc_b hW _ _) | exact zr3 (sc_b hW _ _) | exact rkP_zr hW _ | exact scA_zr hW _ _ | exact zr3 (cW_b hW) | exact zr3 (wS_b hW) | exact zr3 (wS_b hWn) | (unfold zr at *; omega)) dL_acts_314 (by decide) (fun h314 => ?_) (fun h314 => ?_)
        · refine zx_iconst dL_acts_321 ?_
          refine zy_istore [zf 9 0, zi mk, zi u, zi x, zi y, zi z, zi (D 12 0), zi (x % (D 12 0)), zi 0, zu, zu, zu, zu, zu] dL_acts_322 (Nat.le_of_ble_eq_true rfl) (Nat.le_of_ble_eq_true rfl) rfl rfl ?_
          have h01 : D 18 (x % D 12 0).toNat = 0 ∨ D 18 (x % D 12 0).toNat = 1 := (hW.2.2.2.2.1 (x % D 12 0).toNat (by omega)).2.2.2.2
          have hdz := dcs_zr hW
          refine zx_aloadN dL_acts_324 rfl rfl ?_
          refine zx_iload dL_acts_325 rfl ?_
          refine zy_cv [zi (x % (D 12 0))] (fX9_isAside  hfl hz hB hW (by first | exact hz _ _ | assumption | exact zr_b _ | exact zcmp_r _ _ | exact hzD _ _ | exact zr3 (tS_b hW _) | exact zr3 (lsc_b hW _ _) | exact zr3 (sc_b hW _ _) | exact rkP_zr hW _ | exact scA_zr hW _ _ | exact zr3 (cW_b hW) | exact zr3 (wS_b hW) | exact zr3 (wS_b hWn) | (unfold zr at *; omega)) (by first | assumption | omega)) dL_acts_327 (by decide) rfl cw_RL_128 okX9_isAside rfl (Nat.le_of_ble_eq_true rfl) ⟨Nat.le_of_ble_eq_true rfl, Nat.le_of_ble_eq_true rfl, Nat.le_of_ble_eq_true rfl, Nat.le_of_ble_eq_true rfl⟩ ?_
          refine zx_iload dL_acts_330 rfl ?_
          refine zx_icmp_eq (tgt := 339) (by first | exact hz _ _ | assumption | exact zr_b _ | exact zcmp_r _ _ | exact hzD _ _ | exact zr3 (tS_b hW _) | exact zr3 (lsc_b hW _ _) | exact zr3 (sc_b hW _ _) | exact rkP_zr hW _ | exact scA_zr hW _ _ | exact zr3 (cW_b hW) | exact zr3 (wS_b hW) | exact zr3 (wS_b hWn) | (unfold zr at *; omega)) (by first | exact hz _ _ | assumption | exact zr_b _ | exact zcmp_r _ _ | exact hzD _ _ | exact zr3 (tS_b hW _) | exact zr3 (lsc_b hW _ _) | exact zr3 (sc_b hW _ _) | exact rkP_zr hW _ | exact scA_zr hW _ _ | exact zr3 (cW_b hW) | exact zr3 (wS_b hW) | exact zr3 (wS_b hWn) | (unfold zr at *; omega)) dL_acts_332 (by decide) (fun h332 => ?_) (fun h332 => ?_)
          · refine zx_iconst dL_acts_339 ?_
            refine zy_istore [zf 9 0, zi mk, zi u, zi x, zi y, zi z, zi (D 12 0), zi (x % (D 12 0)), zi 0, zi 0, zu, zu, zu, zu] dL_acts_340 (Nat.le_of_ble_eq_true rfl) (Nat.le_of_ble_eq_true rfl) rfl rfl ?_
            refine zx_aloadN dL_acts_342 rfl rfl ?_
            refine zy_cvR [] (fX9_decisiveClue  hfl hz hB hW hP1) dL_acts_343 (by decide) rfl cw_RL_221 okX9_decisiveClue rfl (Nat.le_of_ble_eq_true rfl) ⟨Nat.le_of_ble_eq_true rfl, Nat.le_of_ble_eq_true rfl, Nat.le_of_ble_eq_true rfl, Nat.le_of_ble_eq_true rfl⟩ (fun τ343 hr343 => ?_)
            have hz343 : zOK τ343 := hr343.1
            refine zy_istore [zf 9 0, zi mk, zi u, zi x, zi y, zi z, zi (D 12 0), zi (x % (D 12 0)), zi 0, zi 0, zi (dcs D), zu, zu, zu] dL_acts_346 (Nat.le_of_ble_eq_true rfl) (Nat.le_of_ble_eq_true rfl) rfl rfl ?_
            refine zx_aloadN dL_acts_348 rfl rfl ?_
            refine zy_cvR [] (fX9_verdictPrinter  hfl hz343 hr343.2.2 hW hP1) dL_acts_349 (by decide) rfl cw_RL_174 okX9_verdictPrinter rfl (Nat.le_of_ble_eq_true rfl) ⟨Nat.le_of_ble_eq_true rfl, Nat.le_of_ble_eq_true rfl, Nat.le_of_ble_eq_true rfl, Nat.le_of_ble_eq_true rfl⟩ (fun τ349 hr349 => ?_)
            have hz349 : zOK τ349 := hr349.1
            refine zy_istore [zf 9 0, zi mk, zi u, zi x, zi y, zi z, zi (D 12 0), zi (x % (D 12 0)), zi 0, zi 0, zi (dcs D), zi ((wP D (Ht D) : Nat) : Int), zu, zu] dL_acts_352 (Nat.le_of_ble_eq_true rfl) (Nat.le_of_ble_eq_true rfl) rfl rfl ?_
            refine zx_aloadN dL_acts_354 rfl rfl ?_
            refine zx_bipush dL_acts_355 rfl ?_
            refine zx_iload dL_acts_357 rfl ?_
            refine zx_iconst dL_acts_359 ?_
            refine zx_irem (by omega) (by omega) (by omega) (by omega) dL_acts_360 ?_
            refine zx_iadd dL_acts_361 ?_
            refine zy_top (b := 7) (by omega) ?_
            refine zx_iload dL_acts_362 rfl ?_
            refine zx_iconst dL_acts_364 ?_
            refine zx_iconst dL_acts_365 ?_
            refine zy_csHR [zf 9 0, zi 7, zi (x % (D 12 0)), zi 0, zi 0] (sL_does_takeBack_f2  hfl hz349 hr349.2.2 hW (HN_j hN (zJ (zJ (zSame_rf _ _) hr343.2.1) hr349.2.1)) (HBA_j hA (zJ (zJ (zSame_rf _ _) hr343.2.1) hr349.2.1)) (by first | assumption | omega) (by first | assumption | omega)) dL_acts_366 cw_RL_231 okL_does rfl (Nat.le_of_ble_eq_true rfl) ⟨Nat.le_of_ble_eq_true rfl, Nat.le_of_ble_eq_true rfl, Nat.le_of_ble_eq_true rfl, Nat.le_of_ble_eq_true rfl⟩ (fun τ366 hr366 => ?_)
            have hz366 : zOK τ366 := hr366.1
            refine zy_istore [zf 9 0, zi mk, zi u, zi x, zi y, zi z, zi (D 12 0), zi (x % (D 12 0)), zi 0, zi 0, zi (dcs D), zi ((wP D (Ht D) : Nat) : Int), zi (-103), zu] dL_acts_369 (Nat.le_of_ble_eq_true rfl) (Nat.le_of_ble_eq_true rfl) rfl rfl ?_
            refine zx_iload dL_acts_371 rfl ?_
            refine zx_if_ne (tgt := 389) (by unfold zr; omega) dL_acts_373 (by decide) (fun h373 => ?_) (fun h373 => ?_)
            · exact absurd h373 (by decide)
            · refine zx_iload dL_acts_376 rfl ?_
              refine zx_bipush dL_acts_378 rfl ?_
              refine zx_icmp_ne (tgt := 387) (by first | exact hz366 _ _ | assumption | exact zr_b _ | exact zcmp_r _ _ | exact hzD _ _ | exact zr3 (tS_b hW _) | exact zr3 (lsc_b hW _ _) | exact zr3 (sc_b hW _ _) | exact rkP_zr hW _ | exact scA_zr hW _ _ | exact zr3 (cW_b hW) | exact zr3 (wS_b hW) | exact zr3 (wS_b hWn) | (unfold zr at *; omega)) (by first | exact hz366 _ _ | assumption | exact zr_b _ | exact zcmp_r _ _ | exact hzD _ _ | exact zr3 (tS_b hW _) | exact zr3 (lsc_b hW _ _) | exact zr3 (sc_b hW _ _) | exact rkP_zr hW _ | exact scA_zr hW _ _ | exact zr3 (cW_b hW) | exact zr3 (wS_b hW) | exact zr3 (wS_b hWn) | (unfold zr at *; omega)) dL_acts_380 (by decide) (fun h380 => ?_) (fun h380 => ?_)
              · exact absurd h380 (by decide)
              · refine zx_iconst dL_acts_383 ?_
                refine zx_goto (tgt := 388) dL_acts_384 (by decide) ?_
                refine zx_iret rfl rfl dL_acts_388 ?_
                rw [hQ]
                refine ⟨congrArg (fun z : Int => (Sum.inl (some (zi z)) : Option zV ⊕ String)) ?_, ?_⟩
                · first | rfl | assumption | omega
                exact AP_e (aB_3 hu.1 hu.2 (by omega)) (AP_f hW (zJ (zJ (zSame_rf _ _) hr343.2.1) hr349.2.1) hr366 (zSame_rf _ _) hz366 rfl)
          · refine zx_iconst dL_acts_335 ?_
            refine zx_goto (tgt := 340) dL_acts_336 (by decide) ?_
            refine zy_istore [zf 9 0, zi mk, zi u, zi x, zi y, zi z, zi (D 12 0), zi (x % (D 12 0)), zi 0, zi 1, zu, zu, zu, zu] dL_acts_340 (Nat.le_of_ble_eq_true rfl) (Nat.le_of_ble_eq_true rfl) rfl rfl ?_
            refine zx_aloadN dL_acts_342 rfl rfl ?_
            refine zy_cvR [] (fX9_decisiveClue  hfl hz hB hW hP1) dL_acts_343 (by decide) rfl cw_RL_221 okX9_decisiveClue rfl (Nat.le_of_ble_eq_true rfl) ⟨Nat.le_of_ble_eq_true rfl, Nat.le_of_ble_eq_true rfl, Nat.le_of_ble_eq_true rfl, Nat.le_of_ble_eq_true rfl⟩ (fun τ343 hr343 => ?_)
            have hz343 : zOK τ343 := hr343.1
            refine zy_istore [zf 9 0, zi mk, zi u, zi x, zi y, zi z, zi (D 12 0), zi (x % (D 12 0)), zi 0, zi 1, zi (dcs D), zu, zu, zu] dL_acts_346 (Nat.le_of_ble_eq_true rfl) (Nat.le_of_ble_eq_true rfl) rfl rfl ?_
            refine zx_aloadN dL_acts_348 rfl rfl ?_
            refine zy_cvR [] (fX9_verdictPrinter  hfl hz343 hr343.2.2 hW hP1) dL_acts_349 (by decide) rfl cw_RL_174 okX9_verdictPrinter rfl (Nat.le_of_ble_eq_true rfl) ⟨Nat.le_of_ble_eq_true rfl, Nat.le_of_ble_eq_true rfl, Nat.le_of_ble_eq_true rfl, Nat.le_of_ble_eq_true rfl⟩ (fun τ349 hr349 => ?_)
            have hz349 : zOK τ349 := hr349.1
            refine zy_istore [zf 9 0, zi mk, zi u, zi x, zi y, zi z, zi (D 12 0), zi (x % (D 12 0)), zi 0, zi 1, zi (dcs D), zi ((wP D (Ht D) : Nat) : Int), zu, zu] dL_acts_352 (Nat.le_of_ble_eq_true rfl) (Nat.le_of_ble_eq_true rfl) rfl rfl ?_
            refine zx_aloadN dL_acts_354 rfl rfl ?_
            refine zx_bipush dL_acts_355 rfl ?_
            refine zx_iload dL_acts_357 rfl ?_
            refine zx_iconst dL_acts_359 ?_
            refine zx_irem (by omega) (by omega) (by omega) (by omega) dL_acts_360 ?_
            refine zx_iadd dL_acts_361 ?_
            refine zy_top (b := 7) (by omega) ?_
            refine zx_iload dL_acts_362 rfl ?_
            refine zx_iconst dL_acts_364 ?_
            refine zx_iconst dL_acts_365 ?_
            refine zy_csHR [zf 9 0, zi 7, zi (x % (D 12 0)), zi 0, zi 0] (sL_does_takeBack  hfl hz349 hr349.2.2 hW hP1 (HN_j hN (zJ (zJ (zSame_rf _ _) hr343.2.1) hr349.2.1)) (HBA_j hA (zJ (zJ (zSame_rf _ _) hr343.2.1) hr349.2.1)) (by first | assumption | omega) (by first | assumption | omega)) dL_acts_366 cw_RL_231 okL_does rfl (Nat.le_of_ble_eq_true rfl) ⟨Nat.le_of_ble_eq_true rfl, Nat.le_of_ble_eq_true rfl, Nat.le_of_ble_eq_true rfl, Nat.le_of_ble_eq_true rfl⟩ (fun τ366 hr366 => ?_)
            have hz366 : zOK τ366 := hr366.1
            have hl := hr366.2.2.2.2.2.2
            have hWn := hr366.2.2.2.2.2.1
            have hzDn := hzDof (rfl : bK τ366 = bK τ366) hz366
            obtain ⟨p12, p1, pv⟩ := ov_post hl (by omega) (by omega) (by omega)
            have hP1n : 1 ≤ (bK τ366) 1 0 := by rw [p1]; exact hP1
            have hwln : (wP (bK τ366) (Ht (bK τ366)) : Int) < (bK τ366) 1 0 := wP_l hWn hP1n
            have eS := wS_t (lEq_sy hl) hWn hP1n
            have hzS : zr (wS (ov D 18 (x % D 12 0).toNat 0) (Ht (ov D 18 (x % D 12 0).toNat 0))) := by rw [eS]; exact zr3 (wS_b hWn)
            refine zy_istore [zf 9 0, zi mk, zi u, zi x, zi y, zi z, zi (D 12 0), zi (x % (D 12 0)), zi 0, zi 1, zi (dcs D), zi ((wP D (Ht D) : Nat) : Int), zi (wS (ov D 18 (x % (D 12 0)).toNat 0) (Ht (ov D 18 (x % (D 12 0)).toNat 0))), zu] dL_acts_369 (Nat.le_of_ble_eq_true rfl) (Nat.le_of_ble_eq_true rfl) rfl rfl ?_
            refine zx_iload dL_acts_371 rfl ?_
            refine zx_if_ne (tgt := 389) (by unfold zr; omega) dL_acts_373 (by decide) (fun h373 => ?_) (fun h373 => ?_)
            · refine zx_iload dL_acts_389 rfl ?_
              refine zx_aloadN dL_acts_391 rfl rfl ?_
              refine zy_cvR [] (fX9_verdictScore  hfl hz366 rfl hr366.2.2.2.2.2.1 hP1n) dL_acts_392 (by decide) rfl cw_RL_189 okX9_verdictScore rfl (Nat.le_of_ble_eq_true rfl) ⟨Nat.le_of_ble_eq_true rfl, Nat.le_of_ble_eq_true rfl, Nat.le_of_ble_eq_true rfl, Nat.le_of_ble_eq_true rfl⟩ (fun τ392 hr392 => ?_)
              have hz392 : zOK τ392 := hr392.1
              refine zy_top (b := wS (ov D 18 (x % D 12 0).toNat 0) (Ht (ov D 18 (x % D 12 0).toNat 0))) (eS.symm) ?_
              refine zx_icmp_ne (tgt := 434) (by first | exact hz392 _ _ | assumption | exact zr_b _ | exact zcmp_r _ _ | exact hzD _ _ | exact zr3 (tS_b hW _) | exact zr3 (lsc_b hW _ _) | exact zr3 (sc_b hW _ _) | exact rkP_zr hW _ | exact scA_zr hW _ _ | exact zr3 (cW_b hW) | exact zr3 (wS_b hW) | exact zr3 (wS_b hWn) | (unfold zr at *; omega)) (by first | exact hz392 _ _ | assumption | exact zr_b _ | exact zcmp_r _ _ | exact hzD _ _ | exact zr3 (tS_b hW _) | exact zr3 (lsc_b hW _ _) | exact zr3 (sc_b hW _ _) | exact rkP_zr hW _ | exact scA_zr hW _ _ | exact zr3 (cW_b hW) | exact zr3 (wS_b hW) | exact zr3 (wS_b hWn) | (unfold zr at *; omega)) dL_acts_395 (by decide) (fun h395 => ?_) (fun h395 => ?_)
              · exfalso
                first
                | exact absurd rfl h395
                | (have d := dcs_in (D := D) (by omega)
                   have e : wP (ov D 18 (x % D 12 0).toNat 0) (Ht (ov D 18 (x % D 12 0).toNat 0)) = wP (bK τ366) (Ht (bK τ366)) := wP_t (lEq_sy hl) hWn
                   have e2 := wP_as hW (x % D 12 0).toNat
                   have e3 : dcs D = (((x % D 12 0).toNat : Nat) : Int) := by omega
                   rw [e3] at d
                   exact d.2.2 (by rw [← e2, e]; omega))
              · refine zx_aloadN dL_acts_398 rfl rfl ?_
                refine zx_iload dL_acts_399 rfl ?_
                refine zy_cv [zi (x % (D 12 0))] (fX9_isAside  hfl hz392 hr392.2.2 hr366.2.2.2.2.2.1 (by first | exact hz392 _ _ | assumption | exact zr_b _ | exact zcmp_r _ _ | exact hzD _ _ | exact zr3 (tS_b hW _) | exact zr3 (lsc_b hW _ _) | exact zr3 (sc_b hW _ _) | exact rkP_zr hW _ | exact scA_zr hW _ _ | exact zr3 (cW_b hW) | exact zr3 (wS_b hW) | exact zr3 (wS_b hWn) | (unfold zr at *; omega)) (by first | assumption | omega)) dL_acts_401 (by decide) rfl cw_RL_128 okX9_isAside rfl (Nat.le_of_ble_eq_true rfl) ⟨Nat.le_of_ble_eq_true rfl, Nat.le_of_ble_eq_true rfl, Nat.le_of_ble_eq_true rfl, Nat.le_of_ble_eq_true rfl⟩ ?_
                refine zy_top (b := 0) (pv) ?_
                refine zx_iload dL_acts_404 rfl ?_
                refine zx_icmp_ne (tgt := 434) (by first | exact hz392 _ _ | assumption | exact zr_b _ | exact zcmp_r _ _ | exact hzD _ _ | exact zr3 (tS_b hW _) | exact zr3 (lsc_b hW _ _) | exact zr3 (sc_b hW _ _) | exact rkP_zr hW _ | exact scA_zr hW _ _ | exact zr3 (cW_b hW) | exact zr3 (wS_b hW) | exact zr3 (wS_b hWn) | (unfold zr at *; omega)) (by first | exact hz392 _ _ | assumption | exact zr_b _ | exact zcmp_r _ _ | exact hzD _ _ | exact zr3 (tS_b hW _) | exact zr3 (lsc_b hW _ _) | exact zr3 (sc_b hW _ _) | exact rkP_zr hW _ | exact scA_zr hW _ _ | exact zr3 (cW_b hW) | exact zr3 (wS_b hW) | exact zr3 (wS_b hWn) | (unfold zr at *; omega)) dL_acts_406 (by decide) (fun h406 => ?_) (fun h406 => ?_)
                · exact absurd h406 (by decide)
                · refine zx_iload dL_acts_409 rfl ?_
                  refine zx_if_eq (tgt := 430) (by unfold zr; omega) dL_acts_411 (by decide) (fun h411 => ?_) (fun h411 => ?_)
                  · refine zx_iconst dL_acts_430 ?_
                    refine zx_goto (tgt := 435) dL_acts_431 (by decide) ?_
                    refine zx_iret rfl rfl dL_acts_435 ?_
                    rw [hQ]
                    refine ⟨congrArg (fun z : Int => (Sum.inl (some (zi z)) : Option zV ⊕ String)) ?_, ?_⟩
                    · first | rfl | assumption | omega
                    exact AP_e (aB_4 hu.1 hu.2 (by omega) (by omega)) (AP_d (zJ (zJ (zSame_rf _ _) hr343.2.1) hr349.2.1) hr366 (zJ (zSame_rf _ _) hr392.2.1) hz392)
                  · exact absurd h411 (by decide)
            · exact absurd h373 (by decide)
        · exfalso; omega
      · refine zx_aloadN dL_acts_285 rfl rfl ?_
        refine zx_bipush dL_acts_286 rfl ?_
        refine zx_iload dL_acts_288 rfl ?_
        refine zx_iconst dL_acts_290 ?_
        refine zx_irem (by omega) (by omega) (by omega) (by omega) dL_acts_291 ?_
        refine zx_iadd dL_acts_292 ?_
        refine zy_top (b := 7) (by omega) ?_
        refine zx_iconst dL_acts_293 ?_
        refine zx_iconst dL_acts_294 ?_
        refine zx_iconst dL_acts_295 ?_
        refine zy_csHR [zf 9 0, zi 7, zi 0, zi 0, zi 0] (sL_does_takeBack_f1  hfl hz hB hW (HN_j hN (zSame_rf _ _)) (HBA_j hA (zSame_rf _ _)) (by first | assumption | omega)) dL_acts_296 cw_RL_231 okL_does rfl (Nat.le_of_ble_eq_true rfl) ⟨Nat.le_of_ble_eq_true rfl, Nat.le_of_ble_eq_true rfl, Nat.le_of_ble_eq_true rfl, Nat.le_of_ble_eq_true rfl⟩ (fun τ296 hr296 => ?_)
        have hz296 : zOK τ296 := hr296.1
        refine zx_bipush dL_acts_299 rfl ?_
        refine zx_icmp_ne (tgt := 308) (by first | exact hz296 _ _ | assumption | exact zr_b _ | exact zcmp_r _ _ | exact hzD _ _ | exact zr3 (tS_b hW _) | exact zr3 (lsc_b hW _ _) | exact zr3 (sc_b hW _ _) | exact rkP_zr hW _ | exact scA_zr hW _ _ | exact zr3 (cW_b hW) | exact zr3 (wS_b hW) | exact zr3 (wS_b hWn) | (unfold zr at *; omega)) (by first | exact hz296 _ _ | assumption | exact zr_b _ | exact zcmp_r _ _ | exact hzD _ _ | exact zr3 (tS_b hW _) | exact zr3 (lsc_b hW _ _) | exact zr3 (sc_b hW _ _) | exact rkP_zr hW _ | exact scA_zr hW _ _ | exact zr3 (cW_b hW) | exact zr3 (wS_b hW) | exact zr3 (wS_b hWn) | (unfold zr at *; omega)) dL_acts_301 (by decide) (fun h301 => ?_) (fun h301 => ?_)
        · exact absurd h301 (by decide)
        · refine zx_iconst dL_acts_304 ?_
          refine zx_goto (tgt := 309) dL_acts_305 (by decide) ?_
          refine zx_iret rfl rfl dL_acts_309 ?_
          rw [hQ]
          refine ⟨congrArg (fun z : Int => (Sum.inl (some (zi z)) : Option zV ⊕ String)) ?_, ?_⟩
          · first | rfl | assumption | omega
          exact AP_e (aB_3 hu.1 hu.2 (by omega)) (AP_f hW (zSame_rf _ _) hr296 (zSame_rf _ _) hz296 rfl)
    rcases (by omega : u = 0 ∨ u = 1 ∨ u = 2 ∨ u = 3 ∨ u = 4 ∨ u = 5 ∨ u = 6 ∨ u = 7 ∨ u = 8 ∨ (u < 0 ∨ 8 < u)) with h22 | h22 | h22 | h22 | h22 | h22 | h22 | h22 | h22 | h22
    · refine zx_tableIn (off := 50) (tgt := 72) (by first | exact hz _ _ | assumption | exact zr_b _ | exact zcmp_r _ _ | exact hzD _ _ | exact zr3 (tS_b hW _) | exact zr3 (lsc_b hW _ _) | exact zr3 (sc_b hW _ _) | exact rkP_zr hW _ | exact scA_zr hW _ _ | exact zr3 (cW_b hW) | exact zr3 (wS_b hW) | exact zr3 (wS_b hWn) | (unfold zr at *; omega)) dL_acts_22 (by omega) (by omega) (by rw [h22]; rfl) (by decide) ?_
      exfalso; omega
    · refine zx_tableIn (off := 50) (tgt := 72) (by first | exact hz _ _ | assumption | exact zr_b _ | exact zcmp_r _ _ | exact hzD _ _ | exact zr3 (tS_b hW _) | exact zr3 (lsc_b hW _ _) | exact zr3 (sc_b hW _ _) | exact rkP_zr hW _ | exact scA_zr hW _ _ | exact zr3 (cW_b hW) | exact zr3 (wS_b hW) | exact zr3 (wS_b hWn) | (unfold zr at *; omega)) dL_acts_22 (by omega) (by omega) (by rw [h22]; rfl) (by decide) ?_
      exfalso; omega
    · refine zx_tableIn (off := 50) (tgt := 72) (by first | exact hz _ _ | assumption | exact zr_b _ | exact zcmp_r _ _ | exact hzD _ _ | exact zr3 (tS_b hW _) | exact zr3 (lsc_b hW _ _) | exact zr3 (sc_b hW _ _) | exact rkP_zr hW _ | exact scA_zr hW _ _ | exact zr3 (cW_b hW) | exact zr3 (wS_b hW) | exact zr3 (wS_b hWn) | (unfold zr at *; omega)) dL_acts_22 (by omega) (by omega) (by rw [h22]; rfl) (by decide) ?_
      exfalso; omega
    · refine zx_tableIn (off := 247) (tgt := 269) (by first | exact hz _ _ | assumption | exact zr_b _ | exact zcmp_r _ _ | exact hzD _ _ | exact zr3 (tS_b hW _) | exact zr3 (lsc_b hW _ _) | exact zr3 (sc_b hW _ _) | exact rkP_zr hW _ | exact scA_zr hW _ _ | exact zr3 (cW_b hW) | exact zr3 (wS_b hW) | exact zr3 (wS_b hWn) | (unfold zr at *; omega)) dL_acts_22 (by omega) (by omega) (by rw [h22]; rfl) (by decide) ?_
      exfalso; omega
    · refine zx_tableIn (off := 247) (tgt := 269) (by first | exact hz _ _ | assumption | exact zr_b _ | exact zcmp_r _ _ | exact hzD _ _ | exact zr3 (tS_b hW _) | exact zr3 (lsc_b hW _ _) | exact zr3 (sc_b hW _ _) | exact rkP_zr hW _ | exact scA_zr hW _ _ | exact zr3 (cW_b hW) | exact zr3 (wS_b hW) | exact zr3 (wS_b hWn) | (unfold zr at *; omega)) dL_acts_22 (by omega) (by omega) (by rw [h22]; rfl) (by decide) ?_
      exfalso; omega
    · refine zx_tableIn (off := 258) (tgt := 280) (by first | exact hz _ _ | assumption | exact zr_b _ | exact zcmp_r _ _ | exact hzD _ _ | exact zr3 (tS_b hW _) | exact zr3 (lsc_b hW _ _) | exact zr3 (sc_b hW _ _) | exact rkP_zr hW _ | exact scA_zr hW _ _ | exact zr3 (cW_b hW) | exact zr3 (wS_b hW) | exact zr3 (wS_b hWn) | (unfold zr at *; omega)) dL_acts_22 (by omega) (by omega) (by rw [h22]; rfl) (by decide) ?_
      exact J280
    · refine zx_tableIn (off := 258) (tgt := 280) (by first | exact hz _ _ | assumption | exact zr_b _ | exact zcmp_r _ _ | exact hzD _ _ | exact zr3 (tS_b hW _) | exact zr3 (lsc_b hW _ _) | exact zr3 (sc_b hW _ _) | exact rkP_zr hW _ | exact scA_zr hW _ _ | exact zr3 (cW_b hW) | exact zr3 (wS_b hW) | exact zr3 (wS_b hWn) | (unfold zr at *; omega)) dL_acts_22 (by omega) (by omega) (by rw [h22]; rfl) (by decide) ?_
      exact J280
    · refine zx_tableIn (off := 414) (tgt := 436) (by first | exact hz _ _ | assumption | exact zr_b _ | exact zcmp_r _ _ | exact hzD _ _ | exact zr3 (tS_b hW _) | exact zr3 (lsc_b hW _ _) | exact zr3 (sc_b hW _ _) | exact rkP_zr hW _ | exact scA_zr hW _ _ | exact zr3 (cW_b hW) | exact zr3 (wS_b hW) | exact zr3 (wS_b hWn) | (unfold zr at *; omega)) dL_acts_22 (by omega) (by omega) (by rw [h22]; rfl) (by decide) ?_
      exfalso; omega
    · refine zx_tableIn (off := 490) (tgt := 512) (by first | exact hz _ _ | assumption | exact zr_b _ | exact zcmp_r _ _ | exact hzD _ _ | exact zr3 (tS_b hW _) | exact zr3 (lsc_b hW _ _) | exact zr3 (sc_b hW _ _) | exact rkP_zr hW _ | exact scA_zr hW _ _ | exact zr3 (cW_b hW) | exact zr3 (wS_b hW) | exact zr3 (wS_b hWn) | (unfold zr at *; omega)) dL_acts_22 (by omega) (by omega) (by rw [h22]; rfl) (by decide) ?_
      exfalso; omega
    · refine zx_tableOut (tgt := 682) (by first | exact hz _ _ | assumption | exact zr_b _ | exact zcmp_r _ _ | exact hzD _ _ | exact zr3 (tS_b hW _) | exact zr3 (lsc_b hW _ _) | exact zr3 (sc_b hW _ _) | exact rkP_zr hW _ | exact scA_zr hW _ _ | exact zr3 (cW_b hW) | exact zr3 (wS_b hW) | exact zr3 (wS_b hWn) | (unfold zr at *; omega)) dL_acts_22 (by omega) (by decide) ?_
      exfalso; omega
  · refine zx_iconst dL_acts_11 ?_
    refine zx_goto (tgt := 19) dL_acts_12 (by decide) ?_
    refine zy_istore [zf 9 0, zi mk, zi u, zi x, zi y, zi z, zi (D 12 0), zi 0, zu, zu, zu, zu, zu, zu] dL_acts_19 (Nat.le_of_ble_eq_true rfl) (Nat.le_of_ble_eq_true rfl) rfl rfl ?_
    refine zx_iloadN dL_acts_21 rfl rfl ?_
    have J280 : zX l w mL_acts (zMQ w 12 1 Q) 280 [zf 9 0, zi mk, zi u, zi x, zi y, zi z, zi (D 12 0), zi 0, zu, zu, zu, zu, zu, zu] [] 0 σ := by
      refine zx_iload dL_acts_280 rfl ?_
      refine zx_if_ne (tgt := 310) (by first | exact hz _ _ | assumption | exact zr_b _ | exact zcmp_r _ _ | exact hzD _ _ | exact zr3 (tS_b hW _) | exact zr3 (lsc_b hW _ _) | exact zr3 (sc_b hW _ _) | exact rkP_zr hW _ | exact scA_zr hW _ _ | exact zr3 (cW_b hW) | exact zr3 (wS_b hW) | exact zr3 (wS_b hWn) | (unfold zr at *; omega)) dL_acts_282 (by decide) (fun h282 => ?_) (fun h282 => ?_)
      · exfalso; omega
      · refine zx_aloadN dL_acts_285 rfl rfl ?_
        refine zx_bipush dL_acts_286 rfl ?_
        refine zx_iload dL_acts_288 rfl ?_
        refine zx_iconst dL_acts_290 ?_
        refine zx_irem (by omega) (by omega) (by omega) (by omega) dL_acts_291 ?_
        refine zx_iadd dL_acts_292 ?_
        refine zy_top (b := 7) (by omega) ?_
        refine zx_iconst dL_acts_293 ?_
        refine zx_iconst dL_acts_294 ?_
        refine zx_iconst dL_acts_295 ?_
        refine zy_csHR [zf 9 0, zi 7, zi 0, zi 0, zi 0] (sL_does_takeBack_f1  hfl hz hB hW (HN_j hN (zSame_rf _ _)) (HBA_j hA (zSame_rf _ _)) (by first | assumption | omega)) dL_acts_296 cw_RL_231 okL_does rfl (Nat.le_of_ble_eq_true rfl) ⟨Nat.le_of_ble_eq_true rfl, Nat.le_of_ble_eq_true rfl, Nat.le_of_ble_eq_true rfl, Nat.le_of_ble_eq_true rfl⟩ (fun τ296 hr296 => ?_)
        have hz296 : zOK τ296 := hr296.1
        refine zx_bipush dL_acts_299 rfl ?_
        refine zx_icmp_ne (tgt := 308) (by first | exact hz296 _ _ | assumption | exact zr_b _ | exact zcmp_r _ _ | exact hzD _ _ | exact zr3 (tS_b hW _) | exact zr3 (lsc_b hW _ _) | exact zr3 (sc_b hW _ _) | exact rkP_zr hW _ | exact scA_zr hW _ _ | exact zr3 (cW_b hW) | exact zr3 (wS_b hW) | exact zr3 (wS_b hWn) | (unfold zr at *; omega)) (by first | exact hz296 _ _ | assumption | exact zr_b _ | exact zcmp_r _ _ | exact hzD _ _ | exact zr3 (tS_b hW _) | exact zr3 (lsc_b hW _ _) | exact zr3 (sc_b hW _ _) | exact rkP_zr hW _ | exact scA_zr hW _ _ | exact zr3 (cW_b hW) | exact zr3 (wS_b hW) | exact zr3 (wS_b hWn) | (unfold zr at *; omega)) dL_acts_301 (by decide) (fun h301 => ?_) (fun h301 => ?_)
        · exact absurd h301 (by decide)
        · refine zx_iconst dL_acts_304 ?_
          refine zx_goto (tgt := 309) dL_acts_305 (by decide) ?_
          refine zx_iret rfl rfl dL_acts_309 ?_
          rw [hQ]
          refine ⟨congrArg (fun z : Int => (Sum.inl (some (zi z)) : Option zV ⊕ String)) ?_, ?_⟩
          · first | rfl | assumption | omega
          exact AP_e (aB_3 hu.1 hu.2 (by omega)) (AP_f hW (zSame_rf _ _) hr296 (zSame_rf _ _) hz296 rfl)
    rcases (by omega : u = 0 ∨ u = 1 ∨ u = 2 ∨ u = 3 ∨ u = 4 ∨ u = 5 ∨ u = 6 ∨ u = 7 ∨ u = 8 ∨ (u < 0 ∨ 8 < u)) with h22 | h22 | h22 | h22 | h22 | h22 | h22 | h22 | h22 | h22
    · refine zx_tableIn (off := 50) (tgt := 72) (by first | exact hz _ _ | assumption | exact zr_b _ | exact zcmp_r _ _ | exact hzD _ _ | exact zr3 (tS_b hW _) | exact zr3 (lsc_b hW _ _) | exact zr3 (sc_b hW _ _) | exact rkP_zr hW _ | exact scA_zr hW _ _ | exact zr3 (cW_b hW) | exact zr3 (wS_b hW) | exact zr3 (wS_b hWn) | (unfold zr at *; omega)) dL_acts_22 (by omega) (by omega) (by rw [h22]; rfl) (by decide) ?_
      exfalso; omega
    · refine zx_tableIn (off := 50) (tgt := 72) (by first | exact hz _ _ | assumption | exact zr_b _ | exact zcmp_r _ _ | exact hzD _ _ | exact zr3 (tS_b hW _) | exact zr3 (lsc_b hW _ _) | exact zr3 (sc_b hW _ _) | exact rkP_zr hW _ | exact scA_zr hW _ _ | exact zr3 (cW_b hW) | exact zr3 (wS_b hW) | exact zr3 (wS_b hWn) | (unfold zr at *; omega)) dL_acts_22 (by omega) (by omega) (by rw [h22]; rfl) (by decide) ?_
      exfalso; omega
    · refine zx_tableIn (off := 50) (tgt := 72) (by first | exact hz _ _ | assumption | exact zr_b _ | exact zcmp_r _ _ | exact hzD _ _ | exact zr3 (tS_b hW _) | exact zr3 (lsc_b hW _ _) | exact zr3 (sc_b hW _ _) | exact rkP_zr hW _ | exact scA_zr hW _ _ | exact zr3 (cW_b hW) | exact zr3 (wS_b hW) | exact zr3 (wS_b hWn) | (unfold zr at *; omega)) dL_acts_22 (by omega) (by omega) (by rw [h22]; rfl) (by decide) ?_
      exfalso; omega
    · refine zx_tableIn (off := 247) (tgt := 269) (by first | exact hz _ _ | assumption | exact zr_b _ | exact zcmp_r _ _ | exact hzD _ _ | exact zr3 (tS_b hW _) | exact zr3 (lsc_b hW _ _) | exact zr3 (sc_b hW _ _) | exact rkP_zr hW _ | exact scA_zr hW _ _ | exact zr3 (cW_b hW) | exact zr3 (wS_b hW) | exact zr3 (wS_b hWn) | (unfold zr at *; omega)) dL_acts_22 (by omega) (by omega) (by rw [h22]; rfl) (by decide) ?_
      exfalso; omega
    · refine zx_tableIn (off := 247) (tgt := 269) (by first | exact hz _ _ | assumption | exact zr_b _ | exact zcmp_r _ _ | exact hzD _ _ | exact zr3 (tS_b hW _) | exact zr3 (lsc_b hW _ _) | exact zr3 (sc_b hW _ _) | exact rkP_zr hW _ | exact scA_zr hW _ _ | exact zr3 (cW_b hW) | exact zr3 (wS_b hW) | exact zr3 (wS_b hWn) | (unfold zr at *; omega)) dL_acts_22 (by omega) (by omega) (by rw [h22]; rfl) (by decide) ?_
      exfalso; omega
    · refine zx_tableIn (off := 258) (tgt := 280) (by first | exact hz _ _ | assumption | exact zr_b _ | exact zcmp_r _ _ | exact hzD _ _ | exact zr3 (tS_b hW _) | exact zr3 (lsc_b hW _ _) | exact zr3 (sc_b hW _ _) | exact rkP_zr hW _ | exact scA_zr hW _ _ | exact zr3 (cW_b hW) | exact zr3 (wS_b hW) | exact zr3 (wS_b hWn) | (unfold zr at *; omega)) dL_acts_22 (by omega) (by omega) (by rw [h22]; rfl) (by decide) ?_
      exact J280
    · refine zx_tableIn (off := 258) (tgt := 280) (by first | exact hz _ _ | assumption | exact zr_b _ | exact zcmp_r _ _ | exact hzD _ _ | exact zr3 (tS_b hW _) | exact zr3 (lsc_b hW _ _) | exact zr3 (sc_b hW _ _) | exact rkP_zr hW _ | exact scA_zr hW _ _ | exact zr3 (cW_b hW) | exact zr3 (wS_b hW) | exact zr3 (wS_b hWn) | (unfold zr at *; omega)) dL_acts_22 (by omega) (by omega) (by rw [h22]; rfl) (by decide) ?_
      exact J280
    · refine zx_tableIn (off := 414) (tgt := 436) (by first | exact hz _ _ | assumption | exact zr_b _ | exact zcmp_r _ _ | exact hzD _ _ | exact zr3 (tS_b hW _) | exact zr3 (lsc_b hW _ _) | exact zr3 (sc_b hW _ _) | exact rkP_zr hW _ | exact scA_zr hW _ _ | exact zr3 (cW_b hW) | exact zr3 (wS_b hW) | exact zr3 (wS_b hWn) | (unfold zr at *; omega)) dL_acts_22 (by omega) (by omega) (by rw [h22]; rfl) (by decide) ?_
      exfalso; omega
    · refine zx_tableIn (off := 490) (tgt := 512) (by first | exact hz _ _ | assumption | exact zr_b _ | exact zcmp_r _ _ | exact hzD _ _ | exact zr3 (tS_b hW _) | exact zr3 (lsc_b hW _ _) | exact zr3 (sc_b hW _ _) | exact rkP_zr hW _ | exact scA_zr hW _ _ | exact zr3 (cW_b hW) | exact zr3 (wS_b hW) | exact zr3 (wS_b hWn) | (unfold zr at *; omega)) dL_acts_22 (by omega) (by omega) (by rw [h22]; rfl) (by decide) ?_
      exfalso; omega
    · refine zx_tableOut (tgt := 682) (by first | exact hz _ _ | assumption | exact zr_b _ | exact zcmp_r _ _ | exact hzD _ _ | exact zr3 (tS_b hW _) | exact zr3 (lsc_b hW _ _) | exact zr3 (sc_b hW _ _) | exact rkP_zr hW _ | exact scA_zr hW _ _ | exact zr3 (cW_b hW) | exact zr3 (wS_b hW) | exact zr3 (wS_b hWn) | (unfold zr at *; omega)) dL_acts_22 (by omega) (by decide) ?_
      exfalso; omega
set_option maxRecDepth 20000 in
set_option maxHeartbeats 2000000 in
theorem sL_acts_e {l : Launch} {w : zW} (hfl : l.stackTraces = false) {σ : zS} {D : zBk} {mk x y z : Int} (hz : zOK σ) (hB : bK σ = D) (hW : WF D) (hP1 : 1 ≤ D 1 0) (hN : HN σ) (hA : HBA σ) (hm : D 1 7 = mk) (hmb : 0 ≤ mk ∧ mk ≤ 2) (hx : 0 ≤ x ∧ x ≤ 99999) (hy : 0 ≤ y ∧ y ≤ 99999) (hzz : 0 ≤ z ∧ z ≤ 99999) : Sp l w mL_acts 12 1 [zf 9 0, zi mk, zi 7, zi x, zi y, zi z] σ (zqv (some (zi 1)) (fun τ => AP σ τ D (aB mk 7 x y z D))) := by
  obtain ⟨Q, hQ⟩ : ∃ Q : zQ, Q = (zqv (some (zi 1)) (fun τ => AP σ τ D (aB mk 7 x y z D))) := ⟨_, rfl⟩
  rw [← hQ]
  refine zx_enter hfl (by decide) rfl 8 rfl ?_
  show zX l w mL_acts (zMQ w 12 1 Q) 0 [zf 9 0, zi mk, zi 7, zi x, zi y, zi z, zu, zu, zu, zu, zu, zu, zu, zu] [] 0 σ
  have hzD := hzDof hB hz
  have hn1 : 0 ≤ D 1 0 ∧ D 1 0 ≤ 8 := hW.1.1
  have hn12 : 0 ≤ D 12 0 ∧ D 12 0 ≤ 40 := hW.1.2.2.2
  have hwl : (wP D (Ht D) : Int) < D 1 0 := wP_l hW hP1
  have hwy := wY_b hW hP1
  have hws := wS_b hW
  have q5 : 0 ≤ y % 5 ∧ y % 5 < 5 := by omega
  have q0 : D 12 0 ≠ 0 → 0 ≤ x % D 12 0 := fun q => Int.emod_nonneg _ q
  have q1 : D 12 0 ≠ 0 → x % D 12 0 < D 12 0 := fun q => Int.emod_lt_of_pos _ (by omega)
  have q2 : 0 ≤ x % D 1 0 := Int.emod_nonneg _ (by omega)
  have q3 : x % D 1 0 < D 1 0 := Int.emod_lt_of_pos _ (by omega)
  have q4 : 0 ≤ y % D 1 0 := Int.emod_nonneg _ (by omega)
  have q6 : y % D 1 0 < D 1 0 := Int.emod_lt_of_pos _ (by omega)
  refine zx_aloadN dL_acts_0 rfl rfl ?_
  refine zy_cv [] (fX9_clueCount  hfl hz hB hW) dL_acts_1 (by decide) rfl cw_RL_98 okX9_clueCount rfl (Nat.le_of_ble_eq_true rfl) ⟨Nat.le_of_ble_eq_true rfl, Nat.le_of_ble_eq_true rfl, Nat.le_of_ble_eq_true rfl, Nat.le_of_ble_eq_true rfl⟩ ?_
  refine zy_istore [zf 9 0, zi mk, zi 7, zi x, zi y, zi z, zi (D 12 0), zu, zu, zu, zu, zu, zu, zu] dL_acts_4 (Nat.le_of_ble_eq_true rfl) (Nat.le_of_ble_eq_true rfl) rfl rfl ?_
  refine zx_iload dL_acts_6 rfl ?_
  refine zx_if_ne (tgt := 15) (by first | exact hz _ _ | assumption | exact zr_b _ | exact zcmp_r _ _ | exact hzD _ _ | exact zr3 (tS_b hW _) | exact zr3 (lsc_b hW _ _) | exact zr3 (sc_b hW _ _) | exact rkP_zr hW _ | exact scA_zr hW _ _ | exact zr3 (cW_b hW) | exact zr3 (wS_b hW) | exact zr3 (wS_b hWn) | (unfold zr at *; omega)) dL_acts_8 (by decide) (fun h8 => ?_) (fun h8 => ?_)
  · refine zx_iloadN dL_acts_15 rfl rfl ?_
    refine zx_iload dL_acts_16 rfl ?_
    refine zx_irem (by omega) (by omega) (by omega) (by omega) dL_acts_18 ?_
    refine zy_istore [zf 9 0, zi mk, zi 7, zi x, zi y, zi z, zi (D 12 0), zi (x % (D 12 0)), zu, zu, zu, zu, zu, zu] dL_acts_19 (Nat.le_of_ble_eq_true rfl) (Nat.le_of_ble_eq_true rfl) rfl rfl ?_
    refine zx_iloadN dL_acts_21 rfl rfl ?_
    have J436 : zX l w mL_acts (zMQ w 12 1 Q) 436 [zf 9 0, zi mk, zi 7, zi x, zi y, zi z, zi (D 12 0), zi (x % (D 12 0)), zu, zu, zu, zu, zu, zu] [] 0 σ := by
      refine zx_iload dL_acts_436 rfl ?_
      refine zx_if_ne (tgt := 461) (by first | exact hz _ _ | assumption | exact zr_b _ | exact zcmp_r _ _ | exact hzD _ _ | exact zr3 (tS_b hW _) | exact zr3 (lsc_b hW _ _) | exact zr3 (sc_b hW _ _) | exact rkP_zr hW _ | exact scA_zr hW _ _ | exact zr3 (cW_b hW) | exact zr3 (wS_b hW) | exact zr3 (wS_b hWn) | (unfold zr at *; omega)) dL_acts_438 (by decide) (fun h438 => ?_) (fun h438 => ?_)
      · refine zx_aloadN dL_acts_461 rfl rfl ?_
        refine zx_iload dL_acts_462 rfl ?_
        refine zy_cv [zi (x % (D 12 0))] (fX9_weightOf  hfl hz hB hW (by first | exact hz _ _ | assumption | exact zr_b _ | exact zcmp_r _ _ | exact hzD _ _ | exact zr3 (tS_b hW _) | exact zr3 (lsc_b hW _ _) | exact zr3 (sc_b hW _ _) | exact rkP_zr hW _ | exact scA_zr hW _ _ | exact zr3 (cW_b hW) | exact zr3 (wS_b hW) | exact zr3 (wS_b hWn) | (unfold zr at *; omega)) (by first | assumption | omega)) dL_acts_464 (by decide) rfl cw_RL_119 okX9_weightOf rfl (Nat.le_of_ble_eq_true rfl) ⟨Nat.le_of_ble_eq_true rfl, Nat.le_of_ble_eq_true rfl, Nat.le_of_ble_eq_true rfl, Nat.le_of_ble_eq_true rfl⟩ ?_
        refine zy_istore [zf 9 0, zi mk, zi 7, zi x, zi y, zi z, zi (D 12 0), zi (x % (D 12 0)), zi (D 16 (x % (D 12 0)).toNat), zu, zu, zu, zu, zu] dL_acts_467 (Nat.le_of_ble_eq_true rfl) (Nat.le_of_ble_eq_true rfl) rfl rfl ?_
        refine zx_aloadN dL_acts_469 rfl rfl ?_
        refine zx_bipush dL_acts_470 rfl ?_
        refine zx_iload dL_acts_472 rfl ?_
        refine zx_iconst dL_acts_474 ?_
        refine zx_iload dL_acts_475 rfl ?_
        refine zx_bipush dL_acts_477 rfl ?_
        refine zx_irem (by omega) (by omega) (by omega) (by omega) dL_acts_479 ?_
        refine zx_iadd dL_acts_480 ?_
        refine zx_iconst dL_acts_481 ?_
        refine zy_csHR [zf 9 0, zi 9, zi (x % (D 12 0)), zi (1 + (z % 9)), zi 0] (sL_does_weight  hfl hz hB hW (HN_j hN (zSame_rf _ _)) (HBA_j hA (zSame_rf _ _)) (by first | assumption | omega) (by first | assumption | omega)) dL_acts_482 cw_RL_231 okL_does rfl (Nat.le_of_ble_eq_true rfl) ⟨Nat.le_of_ble_eq_true rfl, Nat.le_of_ble_eq_true rfl, Nat.le_of_ble_eq_true rfl, Nat.le_of_ble_eq_true rfl⟩ (fun τ482 hr482 => ?_)
        have hz482 : zOK τ482 := hr482.1
        have hl := hr482.2.2.2.2.2.2
        have hWn := hr482.2.2.2.2.2.1
        have hzDn := hzDof (rfl : bK τ482 = bK τ482) hz482
        obtain ⟨p12, p1, pv⟩ := ov_post hl (by omega) (by omega) (by omega)
        refine zx_iload dL_acts_485 rfl ?_
        refine zx_icmp_ne (tgt := 510) (by first | exact hz482 _ _ | assumption | exact zr_b _ | exact zcmp_r _ _ | exact hzD _ _ | exact zr3 (tS_b hW _) | exact zr3 (lsc_b hW _ _) | exact zr3 (sc_b hW _ _) | exact rkP_zr hW _ | exact scA_zr hW _ _ | exact zr3 (cW_b hW) | exact zr3 (wS_b hW) | exact zr3 (wS_b hWn) | (unfold zr at *; omega)) (by first | exact hz482 _ _ | assumption | exact zr_b _ | exact zcmp_r _ _ | exact hzD _ _ | exact zr3 (tS_b hW _) | exact zr3 (lsc_b hW _ _) | exact zr3 (sc_b hW _ _) | exact rkP_zr hW _ | exact scA_zr hW _ _ | exact zr3 (cW_b hW) | exact zr3 (wS_b hW) | exact zr3 (wS_b hWn) | (unfold zr at *; omega)) dL_acts_487 (by decide) (fun h487 => ?_) (fun h487 => ?_)
        · exfalso; first | exact absurd rfl h487 | exact absurd rfl h503 | omega
        · refine zx_aloadN dL_acts_490 rfl rfl ?_
          refine zx_iload dL_acts_491 rfl ?_
          refine zy_cv [zi (x % (D 12 0))] (fX9_weightOf  hfl hz482 rfl hr482.2.2.2.2.2.1 (by first | exact hz482 _ _ | assumption | exact zr_b _ | exact zcmp_r _ _ | exact hzD _ _ | exact zr3 (tS_b hW _) | exact zr3 (lsc_b hW _ _) | exact zr3 (sc_b hW _ _) | exact rkP_zr hW _ | exact scA_zr hW _ _ | exact zr3 (cW_b hW) | exact zr3 (wS_b hW) | exact zr3 (wS_b hWn) | (unfold zr at *; omega)) (by first | assumption | omega)) dL_acts_493 (by decide) rfl cw_RL_119 okX9_weightOf rfl (Nat.le_of_ble_eq_true rfl) ⟨Nat.le_of_ble_eq_true rfl, Nat.le_of_ble_eq_true rfl, Nat.le_of_ble_eq_true rfl, Nat.le_of_ble_eq_true rfl⟩ ?_
          refine zy_top (b := 1 + z % 9) (pv) ?_
          refine zx_iconst dL_acts_496 ?_
          refine zx_iload dL_acts_497 rfl ?_
          refine zx_bipush dL_acts_499 rfl ?_
          refine zx_irem (by omega) (by omega) (by omega) (by omega) dL_acts_501 ?_
          refine zx_iadd dL_acts_502 ?_
          refine zx_icmp_ne (tgt := 510) (by first | exact hz482 _ _ | assumption | exact zr_b _ | exact zcmp_r _ _ | exact hzD _ _ | exact zr3 (tS_b hW _) | exact zr3 (lsc_b hW _ _) | exact zr3 (sc_b hW _ _) | exact rkP_zr hW _ | exact scA_zr hW _ _ | exact zr3 (cW_b hW) | exact zr3 (wS_b hW) | exact zr3 (wS_b hWn) | (unfold zr at *; omega)) (by first | exact hz482 _ _ | assumption | exact zr_b _ | exact zcmp_r _ _ | exact hzD _ _ | exact zr3 (tS_b hW _) | exact zr3 (lsc_b hW _ _) | exact zr3 (sc_b hW _ _) | exact rkP_zr hW _ | exact scA_zr hW _ _ | exact zr3 (cW_b hW) | exact zr3 (wS_b hW) | exact zr3 (wS_b hWn) | (unfold zr at *; omega)) dL_acts_503 (by decide) (fun h503 => ?_) (fun h503 => ?_)
          · exfalso; first | exact absurd rfl h487 | exact absurd rfl h503 | omega
          · refine zx_iconst dL_acts_506 ?_
            refine zx_goto (tgt := 511) dL_acts_507 (by decide) ?_
            refine zx_iret rfl rfl dL_acts_511 ?_
            rw [hQ]
            refine ⟨congrArg (fun z : Int => (Sum.inl (some (zi z)) : Option zV ⊕ String)) ?_, ?_⟩
            · first | rfl | assumption | omega
            exact AP_e (aB_6 (by omega)) (AP_d (zSame_rf _ _) hr482 (zSame_rf _ _) hz482)
      · refine zx_aloadN dL_acts_441 rfl rfl ?_
        refine zx_bipush dL_acts_442 rfl ?_
        refine zx_iconst dL_acts_444 ?_
        refine zx_iconst dL_acts_445 ?_
        refine zx_iconst dL_acts_446 ?_
        refine zy_csHR [zf 9 0, zi 9, zi 0, zi 1, zi 0] (sL_does_weight_f1  hfl hz hB hW (HN_j hN (zSame_rf _ _)) (HBA_j hA (zSame_rf _ _)) (by first | assumption | omega)) dL_acts_447 cw_RL_231 okL_does rfl (Nat.le_of_ble_eq_true rfl) ⟨Nat.le_of_ble_eq_true rfl, Nat.le_of_ble_eq_true rfl, Nat.le_of_ble_eq_true rfl, Nat.le_of_ble_eq_true rfl⟩ (fun τ447 hr447 => ?_)
        have hz447 : zOK τ447 := hr447.1
        refine zx_bipush dL_acts_450 rfl ?_
        refine zx_icmp_ne (tgt := 459) (by first | exact hz447 _ _ | assumption | exact zr_b _ | exact zcmp_r _ _ | exact hzD _ _ | exact zr3 (tS_b hW _) | exact zr3 (lsc_b hW _ _) | exact zr3 (sc_b hW _ _) | exact rkP_zr hW _ | exact scA_zr hW _ _ | exact zr3 (cW_b hW) | exact zr3 (wS_b hW) | exact zr3 (wS_b hWn) | (unfold zr at *; omega)) (by first | exact hz447 _ _ | assumption | exact zr_b _ | exact zcmp_r _ _ | exact hzD _ _ | exact zr3 (tS_b hW _) | exact zr3 (lsc_b hW _ _) | exact zr3 (sc_b hW _ _) | exact rkP_zr hW _ | exact scA_zr hW _ _ | exact zr3 (cW_b hW) | exact zr3 (wS_b hW) | exact zr3 (wS_b hWn) | (unfold zr at *; omega)) dL_acts_452 (by decide) (fun h452 => ?_) (fun h452 => ?_)
        · exact absurd h452 (by decide)
        · refine zx_iconst dL_acts_455 ?_
          refine zx_goto (tgt := 460) dL_acts_456 (by decide) ?_
          refine zx_iret rfl rfl dL_acts_460 ?_
          rw [hQ]
          refine ⟨congrArg (fun z : Int => (Sum.inl (some (zi z)) : Option zV ⊕ String)) ?_, ?_⟩
          · first | rfl | assumption | omega
          exact AP_e (aB_5 (by omega)) (AP_f hW (zSame_rf _ _) hr447 (zSame_rf _ _) hz447 rfl)
    refine zx_tableIn (off := 414) (tgt := 436) (by unfold zr; omega) dL_acts_22 (by omega) (by omega) rfl (by decide) ?_
    exact J436
  · refine zx_iconst dL_acts_11 ?_
    refine zx_goto (tgt := 19) dL_acts_12 (by decide) ?_
    refine zy_istore [zf 9 0, zi mk, zi 7, zi x, zi y, zi z, zi (D 12 0), zi 0, zu, zu, zu, zu, zu, zu] dL_acts_19 (Nat.le_of_ble_eq_true rfl) (Nat.le_of_ble_eq_true rfl) rfl rfl ?_
    refine zx_iloadN dL_acts_21 rfl rfl ?_
    have J436 : zX l w mL_acts (zMQ w 12 1 Q) 436 [zf 9 0, zi mk, zi 7, zi x, zi y, zi z, zi (D 12 0), zi 0, zu, zu, zu, zu, zu, zu] [] 0 σ := by
      refine zx_iload dL_acts_436 rfl ?_
      refine zx_if_ne (tgt := 461) (by first | exact hz _ _ | assumption | exact zr_b _ | exact zcmp_r _ _ | exact hzD _ _ | exact zr3 (tS_b hW _) | exact zr3 (lsc_b hW _ _) | exact zr3 (sc_b hW _ _) | exact rkP_zr hW _ | exact scA_zr hW _ _ | exact zr3 (cW_b hW) | exact zr3 (wS_b hW) | exact zr3 (wS_b hWn) | (unfold zr at *; omega)) dL_acts_438 (by decide) (fun h438 => ?_) (fun h438 => ?_)
      · exfalso; omega
      · refine zx_aloadN dL_acts_441 rfl rfl ?_
        refine zx_bipush dL_acts_442 rfl ?_
        refine zx_iconst dL_acts_444 ?_
        refine zx_iconst dL_acts_445 ?_
        refine zx_iconst dL_acts_446 ?_
        refine zy_csHR [zf 9 0, zi 9, zi 0, zi 1, zi 0] (sL_does_weight_f1  hfl hz hB hW (HN_j hN (zSame_rf _ _)) (HBA_j hA (zSame_rf _ _)) (by first | assumption | omega)) dL_acts_447 cw_RL_231 okL_does rfl (Nat.le_of_ble_eq_true rfl) ⟨Nat.le_of_ble_eq_true rfl, Nat.le_of_ble_eq_true rfl, Nat.le_of_ble_eq_true rfl, Nat.le_of_ble_eq_true rfl⟩ (fun τ447 hr447 => ?_)
        have hz447 : zOK τ447 := hr447.1
        refine zx_bipush dL_acts_450 rfl ?_
        refine zx_icmp_ne (tgt := 459) (by first | exact hz447 _ _ | assumption | exact zr_b _ | exact zcmp_r _ _ | exact hzD _ _ | exact zr3 (tS_b hW _) | exact zr3 (lsc_b hW _ _) | exact zr3 (sc_b hW _ _) | exact rkP_zr hW _ | exact scA_zr hW _ _ | exact zr3 (cW_b hW) | exact zr3 (wS_b hW) | exact zr3 (wS_b hWn) | (unfold zr at *; omega)) (by first | exact hz447 _ _ | assumption | exact zr_b _ | exact zcmp_r _ _ | exact hzD _ _ | exact zr3 (tS_b hW _) | exact zr3 (lsc_b hW _ _) | exact zr3 (sc_b hW _ _) | exact rkP_zr hW _ | exact scA_zr hW _ _ | exact zr3 (cW_b hW) | exact zr3 (wS_b hW) | exact zr3 (wS_b hWn) | (unfold zr at *; omega)) dL_acts_452 (by decide) (fun h452 => ?_) (fun h452 => ?_)
        · exact absurd h452 (by decide)
        · refine zx_iconst dL_acts_455 ?_
          refine zx_goto (tgt := 460) dL_acts_456 (by decide) ?_
          refine zx_iret rfl rfl dL_acts_460 ?_
          rw [hQ]
          refine ⟨congrArg (fun z : Int => (Sum.inl (some (zi z)) : Option zV ⊕ String)) ?_, ?_⟩
          · first | rfl | assumption | omega
          exact AP_e (aB_5 (by omega)) (AP_f hW (zSame_rf _ _) hr447 (zSame_rf _ _) hz447 rfl)
    refine zx_tableIn (off := 414) (tgt := 436) (by unfold zr; omega) dL_acts_22 (by omega) (by omega) rfl (by decide) ?_
    exact J436
set_option maxRecDepth 20000 in
set_option maxHeartbeats 2000000 in
theorem sL_acts_f {l : Launch} {w : zW} (hfl : l.stackTraces = false) {σ : zS} {D : zBk} {mk x y z : Int} (hz : zOK σ) (hB : bK σ = D) (hW : WF D) (hP1 : 1 ≤ D 1 0) (hN : HN σ) (hA : HBA σ) (hm : D 1 7 = mk) (hmb : 0 ≤ mk ∧ mk ≤ 2) (hx : 0 ≤ x ∧ x ≤ 99999) (hy : 0 ≤ y ∧ y ≤ 99999) (hzz : 0 ≤ z ∧ z ≤ 99999) : Sp l w mL_acts 12 1 [zf 9 0, zi mk, zi 8, zi x, zi y, zi z] σ (zqv (some (zi 1)) (fun τ => AP σ τ D (aB mk 8 x y z D))) := by
  obtain ⟨Q, hQ⟩ : ∃ Q : zQ, Q = (zqv (some (zi 1)) (fun τ => AP σ τ D (aB mk 8 x y z D))) := ⟨_, rfl⟩
  rw [← hQ]
  refine zx_enter hfl (by decide) rfl 8 rfl ?_
  show zX l w mL_acts (zMQ w 12 1 Q) 0 [zf 9 0, zi mk, zi 8, zi x, zi y, zi z, zu, zu, zu, zu, zu, zu, zu, zu] [] 0 σ
  have hzD := hzDof hB hz
  have hn1 : 0 ≤ D 1 0 ∧ D 1 0 ≤ 8 := hW.1.1
  have hn12 : 0 ≤ D 12 0 ∧ D 12 0 ≤ 40 := hW.1.2.2.2
  have hwl : (wP D (Ht D) : Int) < D 1 0 := wP_l hW hP1
  have hwy := wY_b hW hP1
  have hws := wS_b hW
  have q5 : 0 ≤ y % 5 ∧ y % 5 < 5 := by omega
  have q0 : D 12 0 ≠ 0 → 0 ≤ x % D 12 0 := fun q => Int.emod_nonneg _ q
  have q1 : D 12 0 ≠ 0 → x % D 12 0 < D 12 0 := fun q => Int.emod_lt_of_pos _ (by omega)
  have q2 : 0 ≤ x % D 1 0 := Int.emod_nonneg _ (by omega)
  have q3 : x % D 1 0 < D 1 0 := Int.emod_lt_of_pos _ (by omega)
  have q4 : 0 ≤ y % D 1 0 := Int.emod_nonneg _ (by omega)
  have q6 : y % D 1 0 < D 1 0 := Int.emod_lt_of_pos _ (by omega)
  have hob := zsb_le (fun p => hasDev D p (z % 5)) (D 1 0).toNat
  refine zx_aloadN dL_acts_0 rfl rfl ?_
  refine zy_cv [] (fX9_clueCount  hfl hz hB hW) dL_acts_1 (by decide) rfl cw_RL_98 okX9_clueCount rfl (Nat.le_of_ble_eq_true rfl) ⟨Nat.le_of_ble_eq_true rfl, Nat.le_of_ble_eq_true rfl, Nat.le_of_ble_eq_true rfl, Nat.le_of_ble_eq_true rfl⟩ ?_
  refine zy_istore [zf 9 0, zi mk, zi 8, zi x, zi y, zi z, zi (D 12 0), zu, zu, zu, zu, zu, zu, zu] dL_acts_4 (Nat.le_of_ble_eq_true rfl) (Nat.le_of_ble_eq_true rfl) rfl rfl ?_
  refine zx_iload dL_acts_6 rfl ?_
  refine zx_if_ne (tgt := 15) (by first | exact hz _ _ | assumption | exact zr_b _ | exact zcmp_r _ _ | exact hzD _ _ | exact zr3 (tS_b hW _) | exact zr3 (lsc_b hW _ _) | exact zr3 (sc_b hW _ _) | exact rkP_zr hW _ | exact scA_zr hW _ _ | exact zr3 (cW_b hW) | exact zr3 (wS_b hW) | exact zr3 (wS_b hWn) | (unfold zr at *; omega)) dL_acts_8 (by decide) (fun h8 => ?_) (fun h8 => ?_)
  · refine zx_iloadN dL_acts_15 rfl rfl ?_
    refine zx_iload dL_acts_16 rfl ?_
    refine zx_irem (by omega) (by omega) (by omega) (by omega) dL_acts_18 ?_
    refine zy_istore [zf 9 0, zi mk, zi 8, zi x, zi y, zi z, zi (D 12 0), zi (x % (D 12 0)), zu, zu, zu, zu, zu, zu] dL_acts_19 (Nat.le_of_ble_eq_true rfl) (Nat.le_of_ble_eq_true rfl) rfl rfl ?_
    refine zx_iloadN dL_acts_21 rfl rfl ?_
    have J512 : zX l w mL_acts (zMQ w 12 1 Q) 512 [zf 9 0, zi mk, zi 8, zi x, zi y, zi z, zi (D 12 0), zi (x % (D 12 0)), zu, zu, zu, zu, zu, zu] [] 0 σ := by
      refine zx_iloadN dL_acts_512 rfl rfl ?_
      refine zx_aloadN dL_acts_513 rfl rfl ?_
      refine zy_cv [] (fX9_printerCount  hfl hz hB hW) dL_acts_514 (by decide) rfl cw_RL_133 okX9_printerCount rfl (Nat.le_of_ble_eq_true rfl) ⟨Nat.le_of_ble_eq_true rfl, Nat.le_of_ble_eq_true rfl, Nat.le_of_ble_eq_true rfl, Nat.le_of_ble_eq_true rfl⟩ ?_
      refine zx_irem (by omega) (by omega) (by omega) (by omega) dL_acts_517 ?_
      refine zy_istore [zf 9 0, zi mk, zi 8, zi x, zi y, zi z, zi (D 12 0), zi (x % (D 12 0)), zi (x % (D 1 0)), zu, zu, zu, zu, zu] dL_acts_518 (Nat.le_of_ble_eq_true rfl) (Nat.le_of_ble_eq_true rfl) rfl rfl ?_
      refine zx_iload dL_acts_520 rfl ?_
      refine zx_aloadN dL_acts_522 rfl rfl ?_
      refine zy_cv [] (fX9_printerCount  hfl hz hB hW) dL_acts_523 (by decide) rfl cw_RL_133 okX9_printerCount rfl (Nat.le_of_ble_eq_true rfl) ⟨Nat.le_of_ble_eq_true rfl, Nat.le_of_ble_eq_true rfl, Nat.le_of_ble_eq_true rfl, Nat.le_of_ble_eq_true rfl⟩ ?_
      refine zx_irem (by omega) (by omega) (by omega) (by omega) dL_acts_526 ?_
      refine zy_istore [zf 9 0, zi mk, zi 8, zi x, zi y, zi z, zi (D 12 0), zi (x % (D 12 0)), zi (x % (D 1 0)), zi (y % (D 1 0)), zu, zu, zu, zu] dL_acts_527 (Nat.le_of_ble_eq_true rfl) (Nat.le_of_ble_eq_true rfl) rfl rfl ?_
      refine zx_aloadN dL_acts_529 rfl rfl ?_
      refine zx_iload dL_acts_530 rfl ?_
      refine zx_iload dL_acts_532 rfl ?_
      refine zx_iconst dL_acts_534 ?_
      refine zx_irem (by omega) (by omega) (by omega) (by omega) dL_acts_535 ?_
      refine zy_cv [zi (x % (D 1 0)), zi (z % 5)] (fX9_hasDevice  hfl hz hB hW (by first | exact hz _ _ | assumption | exact zr_b _ | exact zcmp_r _ _ | exact hzD _ _ | exact zr3 (tS_b hW _) | exact zr3 (lsc_b hW _ _) | exact zr3 (sc_b hW _ _) | exact rkP_zr hW _ | exact scA_zr hW _ _ | exact zr3 (cW_b hW) | exact zr3 (wS_b hW) | exact zr3 (wS_b hWn) | (unfold zr at *; omega)) (by first | exact hz _ _ | assumption | exact zr_b _ | exact zcmp_r _ _ | exact hzD _ _ | exact zr3 (tS_b hW _) | exact zr3 (lsc_b hW _ _) | exact zr3 (sc_b hW _ _) | exact rkP_zr hW _ | exact scA_zr hW _ _ | exact zr3 (cW_b hW) | exact zr3 (wS_b hW) | exact zr3 (wS_b hWn) | (unfold zr at *; omega)) (by first | assumption | omega)) dL_acts_536 (by decide) rfl cw_RL_136 okX9_hasDevice rfl (Nat.le_of_ble_eq_true rfl) ⟨Nat.le_of_ble_eq_true rfl, Nat.le_of_ble_eq_true rfl, Nat.le_of_ble_eq_true rfl, Nat.le_of_ble_eq_true rfl⟩ ?_
      refine zy_istore [zf 9 0, zi mk, zi 8, zi x, zi y, zi z, zi (D 12 0), zi (x % (D 12 0)), zi (x % (D 1 0)), zi (y % (D 1 0)), zi (zb (hasDev D (x % (D 1 0)).toNat (z % 5))), zu, zu, zu] dL_acts_539 (Nat.le_of_ble_eq_true rfl) (Nat.le_of_ble_eq_true rfl) rfl rfl ?_
      refine zx_aloadN dL_acts_541 rfl rfl ?_
      refine zx_iload dL_acts_542 rfl ?_
      refine zx_iload dL_acts_544 rfl ?_
      refine zx_iconst dL_acts_546 ?_
      refine zx_irem (by omega) (by omega) (by omega) (by omega) dL_acts_547 ?_
      refine zy_cv [zi (y % (D 1 0)), zi (z % 5)] (fX9_hasDevice  hfl hz hB hW (by first | exact hz _ _ | assumption | exact zr_b _ | exact zcmp_r _ _ | exact hzD _ _ | exact zr3 (tS_b hW _) | exact zr3 (lsc_b hW _ _) | exact zr3 (sc_b hW _ _) | exact rkP_zr hW _ | exact scA_zr hW _ _ | exact zr3 (cW_b hW) | exact zr3 (wS_b hW) | exact zr3 (wS_b hWn) | (unfold zr at *; omega)) (by first | exact hz _ _ | assumption | exact zr_b _ | exact zcmp_r _ _ | exact hzD _ _ | exact zr3 (tS_b hW _) | exact zr3 (lsc_b hW _ _) | exact zr3 (sc_b hW _ _) | exact rkP_zr hW _ | exact scA_zr hW _ _ | exact zr3 (cW_b hW) | exact zr3 (wS_b hW) | exact zr3 (wS_b hWn) | (unfold zr at *; omega)) (by first | assumption | omega)) dL_acts_548 (by decide) rfl cw_RL_136 okX9_hasDevice rfl (Nat.le_of_ble_eq_true rfl) ⟨Nat.le_of_ble_eq_true rfl, Nat.le_of_ble_eq_true rfl, Nat.le_of_ble_eq_true rfl, Nat.le_of_ble_eq_true rfl⟩ ?_
      refine zy_istore [zf 9 0, zi mk, zi 8, zi x, zi y, zi z, zi (D 12 0), zi (x % (D 12 0)), zi (x % (D 1 0)), zi (y % (D 1 0)), zi (zb (hasDev D (x % (D 1 0)).toNat (z % 5))), zi (zb (hasDev D (y % (D 1 0)).toNat (z % 5))), zu, zu] dL_acts_551 (Nat.le_of_ble_eq_true rfl) (Nat.le_of_ble_eq_true rfl) rfl rfl ?_
      refine zx_aloadN dL_acts_553 rfl rfl ?_
      refine zx_iload dL_acts_554 rfl ?_
      refine zx_iconst dL_acts_556 ?_
      refine zx_irem (by omega) (by omega) (by omega) (by omega) dL_acts_557 ?_
      refine zy_cv [zi (z % 5)] (fX9_deviceOwners  hfl hz hB hW (by first | exact hz _ _ | assumption | exact zr_b _ | exact zcmp_r _ _ | exact hzD _ _ | exact zr3 (tS_b hW _) | exact zr3 (lsc_b hW _ _) | exact zr3 (sc_b hW _ _) | exact rkP_zr hW _ | exact scA_zr hW _ _ | exact zr3 (cW_b hW) | exact zr3 (wS_b hW) | exact zr3 (wS_b hWn) | (unfold zr at *; omega))) dL_acts_558 (by decide) rfl cw_RL_238 okX9_deviceOwners rfl (Nat.le_of_ble_eq_true rfl) ⟨Nat.le_of_ble_eq_true rfl, Nat.le_of_ble_eq_true rfl, Nat.le_of_ble_eq_true rfl, Nat.le_of_ble_eq_true rfl⟩ ?_
      refine zy_istore [zf 9 0, zi mk, zi 8, zi x, zi y, zi z, zi (D 12 0), zi (x % (D 12 0)), zi (x % (D 1 0)), zi (y % (D 1 0)), zi (zb (hasDev D (x % (D 1 0)).toNat (z % 5))), zi (zb (hasDev D (y % (D 1 0)).toNat (z % 5))), zi (zs (fun p => zb (hasDev D p (z % 5))) (D 1 0).toNat), zu] dL_acts_561 (Nat.le_of_ble_eq_true rfl) (Nat.le_of_ble_eq_true rfl) rfl rfl ?_
      refine zx_aloadN dL_acts_563 rfl rfl ?_
      refine zx_bipush dL_acts_564 rfl ?_
      refine zx_iload dL_acts_566 rfl ?_
      refine zx_iload dL_acts_568 rfl ?_
      refine zx_iload dL_acts_570 rfl ?_
      refine zx_iconst dL_acts_572 ?_
      refine zx_irem (by omega) (by omega) (by omega) (by omega) dL_acts_573 ?_
      by_cases hb574 : (x % (D 1 0)) = (y % (D 1 0))
      · refine zy_csHR [zf 9 0, zi 10, zi (x % (D 1 0)), zi (y % (D 1 0)), zi (z % 5)] (sL_does_lend_f2  hfl hz hB hW (HN_j hN (zSame_rf _ _)) (HBA_j hA (zSame_rf _ _)) (by first | assumption | omega) (by first | assumption | omega) (by first | assumption | omega) (by first | assumption | omega)) dL_acts_574 cw_RL_231 okL_does rfl (Nat.le_of_ble_eq_true rfl) ⟨Nat.le_of_ble_eq_true rfl, Nat.le_of_ble_eq_true rfl, Nat.le_of_ble_eq_true rfl, Nat.le_of_ble_eq_true rfl⟩ (fun τ574 hr574 => ?_)
        have hz574 : zOK τ574 := hr574.1
        refine zy_istore [zf 9 0, zi mk, zi 8, zi x, zi y, zi z, zi (D 12 0), zi (x % (D 12 0)), zi (x % (D 1 0)), zi (y % (D 1 0)), zi (zb (hasDev D (x % (D 1 0)).toNat (z % 5))), zi (zb (hasDev D (y % (D 1 0)).toNat (z % 5))), zi (zs (fun p => zb (hasDev D p (z % 5))) (D 1 0).toNat), zi (-102)] dL_acts_577 (Nat.le_of_ble_eq_true rfl) (Nat.le_of_ble_eq_true rfl) rfl rfl ?_
        refine zx_iload dL_acts_579 rfl ?_
        refine zx_iload dL_acts_581 rfl ?_
        refine zx_icmp_ne (tgt := 599) (by first | exact hz574 _ _ | assumption | exact zr_b _ | exact zcmp_r _ _ | exact hzD _ _ | exact zr3 (tS_b hW _) | exact zr3 (lsc_b hW _ _) | exact zr3 (sc_b hW _ _) | exact rkP_zr hW _ | exact scA_zr hW _ _ | exact zr3 (cW_b hW) | exact zr3 (wS_b hW) | exact zr3 (wS_b hWn) | (unfold zr at *; omega)) (by first | exact hz574 _ _ | assumption | exact zr_b _ | exact zcmp_r _ _ | exact hzD _ _ | exact zr3 (tS_b hW _) | exact zr3 (lsc_b hW _ _) | exact zr3 (sc_b hW _ _) | exact rkP_zr hW _ | exact scA_zr hW _ _ | exact zr3 (cW_b hW) | exact zr3 (wS_b hW) | exact zr3 (wS_b hWn) | (unfold zr at *; omega)) dL_acts_583 (by decide) (fun h583 => ?_) (fun h583 => ?_)
        · exfalso; omega
        · refine zx_iload dL_acts_586 rfl ?_
          refine zx_bipush dL_acts_588 rfl ?_
          refine zx_icmp_ne (tgt := 597) (by first | exact hz574 _ _ | assumption | exact zr_b _ | exact zcmp_r _ _ | exact hzD _ _ | exact zr3 (tS_b hW _) | exact zr3 (lsc_b hW _ _) | exact zr3 (sc_b hW _ _) | exact rkP_zr hW _ | exact scA_zr hW _ _ | exact zr3 (cW_b hW) | exact zr3 (wS_b hW) | exact zr3 (wS_b hWn) | (unfold zr at *; omega)) (by first | exact hz574 _ _ | assumption | exact zr_b _ | exact zcmp_r _ _ | exact hzD _ _ | exact zr3 (tS_b hW _) | exact zr3 (lsc_b hW _ _) | exact zr3 (sc_b hW _ _) | exact rkP_zr hW _ | exact scA_zr hW _ _ | exact zr3 (cW_b hW) | exact zr3 (wS_b hW) | exact zr3 (wS_b hWn) | (unfold zr at *; omega)) dL_acts_590 (by decide) (fun h590 => ?_) (fun h590 => ?_)
          · exact absurd h590 (by decide)
          · refine zx_iconst dL_acts_593 ?_
            refine zx_goto (tgt := 598) dL_acts_594 (by decide) ?_
            refine zx_iret rfl rfl dL_acts_598 ?_
            rw [hQ]
            refine ⟨congrArg (fun z : Int => (Sum.inl (some (zi z)) : Option zV ⊕ String)) ?_, ?_⟩
            · first | rfl | assumption | omega
            exact AP_e (aB_7 (Or.inl hb574)) (AP_f hW (zSame_rf _ _) hr574 (zSame_rf _ _) hz574 rfl)
      · by_cases hb574b : ¬ hasDev D (x % (D 1 0)).toNat (z % 5)
        · refine zy_csHR [zf 9 0, zi 10, zi (x % (D 1 0)), zi (y % (D 1 0)), zi (z % 5)] (sL_does_lend_f3  hfl hz hB hW (HN_j hN (zSame_rf _ _)) (HBA_j hA (zSame_rf _ _)) (by first | assumption | omega) (by first | assumption | omega) (by first | assumption | omega) (by first | assumption | omega) (by first | assumption | omega)) dL_acts_574 cw_RL_231 okL_does rfl (Nat.le_of_ble_eq_true rfl) ⟨Nat.le_of_ble_eq_true rfl, Nat.le_of_ble_eq_true rfl, Nat.le_of_ble_eq_true rfl, Nat.le_of_ble_eq_true rfl⟩ (fun τ574 hr574 => ?_)
          have hz574 : zOK τ574 := hr574.1
          refine zy_istore [zf 9 0, zi mk, zi 8, zi x, zi y, zi z, zi (D 12 0), zi (x % (D 12 0)), zi (x % (D 1 0)), zi (y % (D 1 0)), zi (zb (hasDev D (x % (D 1 0)).toNat (z % 5))), zi (zb (hasDev D (y % (D 1 0)).toNat (z % 5))), zi (zs (fun p => zb (hasDev D p (z % 5))) (D 1 0).toNat), zi (-103)] dL_acts_577 (Nat.le_of_ble_eq_true rfl) (Nat.le_of_ble_eq_true rfl) rfl rfl ?_
          refine zx_iload dL_acts_579 rfl ?_
          refine zx_iload dL_acts_581 rfl ?_
          refine zx_icmp_ne (tgt := 599) (by first | exact hz574 _ _ | assumption | exact zr_b _ | exact zcmp_r _ _ | exact hzD _ _ | exact zr3 (tS_b hW _) | exact zr3 (lsc_b hW _ _) | exact zr3 (sc_b hW _ _) | exact rkP_zr hW _ | exact scA_zr hW _ _ | exact zr3 (cW_b hW) | exact zr3 (wS_b hW) | exact zr3 (wS_b hWn) | (unfold zr at *; omega)) (by first | exact hz574 _ _ | assumption | exact zr_b _ | exact zcmp_r _ _ | exact hzD _ _ | exact zr3 (tS_b hW _) | exact zr3 (lsc_b hW _ _) | exact zr3 (sc_b hW _ _) | exact rkP_zr hW _ | exact scA_zr hW _ _ | exact zr3 (cW_b hW) | exact zr3 (wS_b hW) | exact zr3 (wS_b hWn) | (unfold zr at *; omega)) dL_acts_583 (by decide) (fun h583 => ?_) (fun h583 => ?_)
          · refine zx_iload dL_acts_599 rfl ?_
            refine zx_if_ne (tgt := 619) (by first | exact hz574 _ _ | assumption | exact zr_b _ | exact zcmp_r _ _ | exact hzD _ _ | exact zr3 (tS_b hW _) | exact zr3 (lsc_b hW _ _) | exact zr3 (sc_b hW _ _) | exact rkP_zr hW _ | exact scA_zr hW _ _ | exact zr3 (cW_b hW) | exact zr3 (wS_b hW) | exact zr3 (wS_b hWn) | (unfold zr at *; omega)) dL_acts_601 (by decide) (fun h601 => ?_) (fun h601 => ?_)
            · have h601 := zb_n.mp h601
              exfalso; exact hb574b h601
            · have h601 := zb_0.mp h601
              refine zx_iload dL_acts_604 rfl ?_
              refine zx_bipush dL_acts_606 rfl ?_
              refine zx_icmp_ne (tgt := 615) (by first | exact hz574 _ _ | assumption | exact zr_b _ | exact zcmp_r _ _ | exact hzD _ _ | exact zr3 (tS_b hW _) | exact zr3 (lsc_b hW _ _) | exact zr3 (sc_b hW _ _) | exact rkP_zr hW _ | exact scA_zr hW _ _ | exact zr3 (cW_b hW) | exact zr3 (wS_b hW) | exact zr3 (wS_b hWn) | (unfold zr at *; omega)) (by first | exact hz574 _ _ | assumption | exact zr_b _ | exact zcmp_r _ _ | exact hzD _ _ | exact zr3 (tS_b hW _) | exact zr3 (lsc_b hW _ _) | exact zr3 (sc_b hW _ _) | exact rkP_zr hW _ | exact scA_zr hW _ _ | exact zr3 (cW_b hW) | exact zr3 (wS_b hW) | exact zr3 (wS_b hWn) | (unfold zr at *; omega)) dL_acts_608 (by decide) (fun h608 => ?_) (fun h608 => ?_)
              · exact absurd h608 (by decide)
              · refine zx_iconst dL_acts_611 ?_
                refine zx_goto (tgt := 681) dL_acts_612 (by decide) ?_
                refine zx_iret rfl rfl dL_acts_681 ?_
                rw [hQ]
                refine ⟨congrArg (fun z : Int => (Sum.inl (some (zi z)) : Option zV ⊕ String)) ?_, ?_⟩
                · first | rfl | assumption | omega
                exact AP_e (aB_7 (Or.inr hb574b)) (AP_f hW (zSame_rf _ _) hr574 (zSame_rf _ _) hz574 rfl)
          · exfalso; omega
        · refine zy_csHR [zf 9 0, zi 10, zi (x % (D 1 0)), zi (y % (D 1 0)), zi (z % 5)] (sL_does_lend  hfl hz hB hW (HN_j hN (zSame_rf _ _)) (HBA_j hA (zSame_rf _ _)) (by first | assumption | omega) (by first | assumption | omega) (by first | assumption | omega) (by first | assumption | omega) (Classical.not_not.mp hb574b)) dL_acts_574 cw_RL_231 okL_does rfl (Nat.le_of_ble_eq_true rfl) ⟨Nat.le_of_ble_eq_true rfl, Nat.le_of_ble_eq_true rfl, Nat.le_of_ble_eq_true rfl, Nat.le_of_ble_eq_true rfl⟩ (fun τ574 hr574 => ?_)
          have hz574 : zOK τ574 := hr574.1
          have hl := hr574.2.2.2.2.2.2
          have hWn := hr574.2.2.2.2.2.1
          have hzDn := hzDof (rfl : bK τ574 = bK τ574) hz574
          have e12 : (bK τ574) 12 0 = D 12 0 := hl.1.2.2.2
          have e1 : (bK τ574) 1 0 = D 1 0 := hl.1.1
          have hne : ¬ (x % D 1 0).toNat = (y % D 1 0).toNat := by omega
          have hob2 := zsb_le (fun p => hasDev (lnB D (x % D 1 0).toNat (y % D 1 0).toNat (z % 5)) p (z % 5)) (D 1 0).toNat
          have eO := own_ln (D := D) (a := (x % D 1 0).toNat) (b := (y % D 1 0).toNat) (d := z % 5) (by omega) hne (Classical.not_not.mp hb574b) (m := (D 1 0).toNat) (by omega) (by omega)
          refine zy_istore [zf 9 0, zi mk, zi 8, zi x, zi y, zi z, zi (D 12 0), zi (x % (D 12 0)), zi (x % (D 1 0)), zi (y % (D 1 0)), zi (zb (hasDev D (x % (D 1 0)).toNat (z % 5))), zi (zb (hasDev D (y % (D 1 0)).toNat (z % 5))), zi (zs (fun p => zb (hasDev D p (z % 5))) (D 1 0).toNat), zi (zs (fun p => zb (hasDev (lnB D (x % (D 1 0)).toNat (y % (D 1 0)).toNat (z % 5)) p (z % 5))) (D 1 0).toNat)] dL_acts_577 (Nat.le_of_ble_eq_true rfl) (Nat.le_of_ble_eq_true rfl) rfl rfl ?_
          refine zx_iload dL_acts_579 rfl ?_
          refine zx_iload dL_acts_581 rfl ?_
          refine zx_icmp_ne (tgt := 599) (by first | exact hz574 _ _ | assumption | exact zr_b _ | exact zcmp_r _ _ | exact hzD _ _ | exact zr3 (tS_b hW _) | exact zr3 (lsc_b hW _ _) | exact zr3 (sc_b hW _ _) | exact rkP_zr hW _ | exact scA_zr hW _ _ | exact zr3 (cW_b hW) | exact zr3 (wS_b hW) | exact zr3 (wS_b hWn) | (unfold zr at *; omega)) (by first | exact hz574 _ _ | assumption | exact zr_b _ | exact zcmp_r _ _ | exact hzD _ _ | exact zr3 (tS_b hW _) | exact zr3 (lsc_b hW _ _) | exact zr3 (sc_b hW _ _) | exact rkP_zr hW _ | exact scA_zr hW _ _ | exact zr3 (cW_b hW) | exact zr3 (wS_b hW) | exact zr3 (wS_b hWn) | (unfold zr at *; omega)) dL_acts_583 (by decide) (fun h583 => ?_) (fun h583 => ?_)
          · refine zx_iload dL_acts_599 rfl ?_
            refine zx_if_ne (tgt := 619) (by first | exact hz574 _ _ | assumption | exact zr_b _ | exact zcmp_r _ _ | exact hzD _ _ | exact zr3 (tS_b hW _) | exact zr3 (lsc_b hW _ _) | exact zr3 (sc_b hW _ _) | exact rkP_zr hW _ | exact scA_zr hW _ _ | exact zr3 (cW_b hW) | exact zr3 (wS_b hW) | exact zr3 (wS_b hWn) | (unfold zr at *; omega)) dL_acts_601 (by decide) (fun h601 => ?_) (fun h601 => ?_)
            · have h601 := zb_n.mp h601
              refine zx_iload dL_acts_619 rfl ?_
              refine zx_iload dL_acts_621 rfl ?_
              refine zx_iload dL_acts_623 rfl ?_
              refine zx_if_eq (tgt := 632) (by first | exact hz574 _ _ | assumption | exact zr_b _ | exact zcmp_r _ _ | exact hzD _ _ | exact zr3 (tS_b hW _) | exact zr3 (lsc_b hW _ _) | exact zr3 (sc_b hW _ _) | exact rkP_zr hW _ | exact scA_zr hW _ _ | exact zr3 (cW_b hW) | exact zr3 (wS_b hW) | exact zr3 (wS_b hWn) | (unfold zr at *; omega)) dL_acts_625 (by decide) (fun h625 => ?_) (fun h625 => ?_)
              · have h625 := zb_0.mp h625
                refine zx_iconst dL_acts_632 ?_
                refine zx_isub dL_acts_633 ?_
                refine zx_icmp_ne (tgt := 680) (by first | exact hz574 _ _ | assumption | exact zr_b _ | exact zcmp_r _ _ | exact hzD _ _ | exact zr3 (tS_b hW _) | exact zr3 (lsc_b hW _ _) | exact zr3 (sc_b hW _ _) | exact rkP_zr hW _ | exact scA_zr hW _ _ | exact zr3 (cW_b hW) | exact zr3 (wS_b hW) | exact zr3 (wS_b hWn) | (unfold zr at *; omega)) (by first | exact hz574 _ _ | assumption | exact zr_b _ | exact zcmp_r _ _ | exact hzD _ _ | exact zr3 (tS_b hW _) | exact zr3 (lsc_b hW _ _) | exact zr3 (sc_b hW _ _) | exact rkP_zr hW _ | exact scA_zr hW _ _ | exact zr3 (cW_b hW) | exact zr3 (wS_b hW) | exact zr3 (wS_b hWn) | (unfold zr at *; omega)) dL_acts_634 (by decide) (fun h634 => ?_) (fun h634 => ?_)
                · exfalso
                  first
                  | exact absurd rfl h647
                  | exact hd_a (by omega) hne ((hasDev_l hl (p := (x % D 1 0).toNat) (by show (((x % D 1 0).toNat : Nat) : Int) < D 1 0; omega) (z % 5)).mp h660)
                  | exact h673 ((hasDev_l hl (p := (y % D 1 0).toNat) (by show (((y % D 1 0).toNat : Nat) : Int) < D 1 0; omega) (z % 5)).mpr (hd_b (by omega)))
                  | (rw [zb_t h625] at eO; omega)
                  | (rw [zb_f h625] at eO; omega)
                · refine zx_iload dL_acts_637 rfl ?_
                  refine zx_aloadN dL_acts_639 rfl rfl ?_
                  refine zx_iload dL_acts_640 rfl ?_
                  refine zx_iconst dL_acts_642 ?_
                  refine zx_irem (by omega) (by omega) (by omega) (by omega) dL_acts_643 ?_
                  refine zy_cv [zi (z % 5)] (fX9_deviceOwners  hfl hz574 rfl hr574.2.2.2.2.2.1 (by first | exact hz574 _ _ | assumption | exact zr_b _ | exact zcmp_r _ _ | exact hzD _ _ | exact zr3 (tS_b hW _) | exact zr3 (lsc_b hW _ _) | exact zr3 (sc_b hW _ _) | exact rkP_zr hW _ | exact scA_zr hW _ _ | exact zr3 (cW_b hW) | exact zr3 (wS_b hW) | exact zr3 (wS_b hWn) | (unfold zr at *; omega))) dL_acts_644 (by decide) rfl cw_RL_238 okX9_deviceOwners rfl (Nat.le_of_ble_eq_true rfl) ⟨Nat.le_of_ble_eq_true rfl, Nat.le_of_ble_eq_true rfl, Nat.le_of_ble_eq_true rfl, Nat.le_of_ble_eq_true rfl⟩ ?_
                  refine zy_top (b := zs (fun p => zb (hasDev (lnB D (x % D 1 0).toNat (y % D 1 0).toNat (z % 5)) p (z % 5))) (D 1 0).toNat) (own_l hl (z % 5)) ?_
                  refine zx_icmp_ne (tgt := 680) (by first | exact hz574 _ _ | assumption | exact zr_b _ | exact zcmp_r _ _ | exact hzD _ _ | exact zr3 (tS_b hW _) | exact zr3 (lsc_b hW _ _) | exact zr3 (sc_b hW _ _) | exact rkP_zr hW _ | exact scA_zr hW _ _ | exact zr3 (cW_b hW) | exact zr3 (wS_b hW) | exact zr3 (wS_b hWn) | (unfold zr at *; omega)) (by first | exact hz574 _ _ | assumption | exact zr_b _ | exact zcmp_r _ _ | exact hzD _ _ | exact zr3 (tS_b hW _) | exact zr3 (lsc_b hW _ _) | exact zr3 (sc_b hW _ _) | exact rkP_zr hW _ | exact scA_zr hW _ _ | exact zr3 (cW_b hW) | exact zr3 (wS_b hW) | exact zr3 (wS_b hWn) | (unfold zr at *; omega)) dL_acts_647 (by decide) (fun h647 => ?_) (fun h647 => ?_)
                  · exfalso
                    first
                    | exact absurd rfl h647
                    | exact hd_a (by omega) hne ((hasDev_l hl (p := (x % D 1 0).toNat) (by show (((x % D 1 0).toNat : Nat) : Int) < D 1 0; omega) (z % 5)).mp h660)
                    | exact h673 ((hasDev_l hl (p := (y % D 1 0).toNat) (by show (((y % D 1 0).toNat : Nat) : Int) < D 1 0; omega) (z % 5)).mpr (hd_b (by omega)))
                    | (rw [zb_t h625] at eO; omega)
                    | (rw [zb_f h625] at eO; omega)
                  · refine zx_aloadN dL_acts_650 rfl rfl ?_
                    refine zx_iload dL_acts_651 rfl ?_
                    refine zx_iload dL_acts_653 rfl ?_
                    refine zx_iconst dL_acts_655 ?_
                    refine zx_irem (by omega) (by omega) (by omega) (by omega) dL_acts_656 ?_
                    refine zy_cv [zi (x % (D 1 0)), zi (z % 5)] (fX9_hasDevice  hfl hz574 rfl hr574.2.2.2.2.2.1 (by first | exact hz574 _ _ | assumption | exact zr_b _ | exact zcmp_r _ _ | exact hzD _ _ | exact zr3 (tS_b hW _) | exact zr3 (lsc_b hW _ _) | exact zr3 (sc_b hW _ _) | exact rkP_zr hW _ | exact scA_zr hW _ _ | exact zr3 (cW_b hW) | exact zr3 (wS_b hW) | exact zr3 (wS_b hWn) | (unfold zr at *; omega)) (by first | exact hz574 _ _ | assumption | exact zr_b _ | exact zcmp_r _ _ | exact hzD _ _ | exact zr3 (tS_b hW _) | exact zr3 (lsc_b hW _ _) | exact zr3 (sc_b hW _ _) | exact rkP_zr hW _ | exact scA_zr hW _ _ | exact zr3 (cW_b hW) | exact zr3 (wS_b hW) | exact zr3 (wS_b hWn) | (unfold zr at *; omega)) (by first | assumption | omega)) dL_acts_657 (by decide) rfl cw_RL_136 okX9_hasDevice rfl (Nat.le_of_ble_eq_true rfl) ⟨Nat.le_of_ble_eq_true rfl, Nat.le_of_ble_eq_true rfl, Nat.le_of_ble_eq_true rfl, Nat.le_of_ble_eq_true rfl⟩ ?_
                    refine zx_if_ne (tgt := 680) (by first | exact hz574 _ _ | assumption | exact zr_b _ | exact zcmp_r _ _ | exact hzD _ _ | exact zr3 (tS_b hW _) | exact zr3 (lsc_b hW _ _) | exact zr3 (sc_b hW _ _) | exact rkP_zr hW _ | exact scA_zr hW _ _ | exact zr3 (cW_b hW) | exact zr3 (wS_b hW) | exact zr3 (wS_b hWn) | (unfold zr at *; omega)) dL_acts_660 (by decide) (fun h660 => ?_) (fun h660 => ?_)
                    · have h660 := zb_n.mp h660
                      exfalso
                      first
                      | exact absurd rfl h647
                      | exact hd_a (by omega) hne ((hasDev_l hl (p := (x % D 1 0).toNat) (by show (((x % D 1 0).toNat : Nat) : Int) < D 1 0; omega) (z % 5)).mp h660)
                      | exact h673 ((hasDev_l hl (p := (y % D 1 0).toNat) (by show (((y % D 1 0).toNat : Nat) : Int) < D 1 0; omega) (z % 5)).mpr (hd_b (by omega)))
                      | (rw [zb_t h625] at eO; omega)
                      | (rw [zb_f h625] at eO; omega)
                    · have h660 := zb_0.mp h660
                      refine zx_aloadN dL_acts_663 rfl rfl ?_
                      refine zx_iload dL_acts_664 rfl ?_
                      refine zx_iload dL_acts_666 rfl ?_
                      refine zx_iconst dL_acts_668 ?_
                      refine zx_irem (by omega) (by omega) (by omega) (by omega) dL_acts_669 ?_
                      refine zy_cv [zi (y % (D 1 0)), zi (z % 5)] (fX9_hasDevice  hfl hz574 rfl hr574.2.2.2.2.2.1 (by first | exact hz574 _ _ | assumption | exact zr_b _ | exact zcmp_r _ _ | exact hzD _ _ | exact zr3 (tS_b hW _) | exact zr3 (lsc_b hW _ _) | exact zr3 (sc_b hW _ _) | exact rkP_zr hW _ | exact scA_zr hW _ _ | exact zr3 (cW_b hW) | exact zr3 (wS_b hW) | exact zr3 (wS_b hWn) | (unfold zr at *; omega)) (by first | exact hz574 _ _ | assumption | exact zr_b _ | exact zcmp_r _ _ | exact hzD _ _ | exact zr3 (tS_b hW _) | exact zr3 (lsc_b hW _ _) | exact zr3 (sc_b hW _ _) | exact rkP_zr hW _ | exact scA_zr hW _ _ | exact zr3 (cW_b hW) | exact zr3 (wS_b hW) | exact zr3 (wS_b hWn) | (unfold zr at *; omega)) (by first | assumption | omega)) dL_acts_670 (by decide) rfl cw_RL_136 okX9_hasDevice rfl (Nat.le_of_ble_eq_true rfl) ⟨Nat.le_of_ble_eq_true rfl, Nat.le_of_ble_eq_true rfl, Nat.le_of_ble_eq_true rfl, Nat.le_of_ble_eq_true rfl⟩ ?_
                      refine zx_if_eq (tgt := 680) (by first | exact hz574 _ _ | assumption | exact zr_b _ | exact zcmp_r _ _ | exact hzD _ _ | exact zr3 (tS_b hW _) | exact zr3 (lsc_b hW _ _) | exact zr3 (sc_b hW _ _) | exact rkP_zr hW _ | exact scA_zr hW _ _ | exact zr3 (cW_b hW) | exact zr3 (wS_b hW) | exact zr3 (wS_b hWn) | (unfold zr at *; omega)) dL_acts_673 (by decide) (fun h673 => ?_) (fun h673 => ?_)
                      · have h673 := zb_0.mp h673
                        exfalso
                        first
                        | exact absurd rfl h647
                        | exact hd_a (by omega) hne ((hasDev_l hl (p := (x % D 1 0).toNat) (by show (((x % D 1 0).toNat : Nat) : Int) < D 1 0; omega) (z % 5)).mp h660)
                        | exact h673 ((hasDev_l hl (p := (y % D 1 0).toNat) (by show (((y % D 1 0).toNat : Nat) : Int) < D 1 0; omega) (z % 5)).mpr (hd_b (by omega)))
                        | (rw [zb_t h625] at eO; omega)
                        | (rw [zb_f h625] at eO; omega)
                      · have h673 := zb_n.mp h673
                        refine zx_iconst dL_acts_676 ?_
                        refine zx_goto (tgt := 681) dL_acts_677 (by decide) ?_
                        refine zx_iret rfl rfl dL_acts_681 ?_
                        rw [hQ]
                        refine ⟨congrArg (fun z : Int => (Sum.inl (some (zi z)) : Option zV ⊕ String)) ?_, ?_⟩
                        · first | rfl | assumption | omega
                        exact AP_e (aB_8 (fun q => q.elim hb574 hb574b)) (AP_d (zSame_rf _ _) hr574 (zSame_rf _ _) hz574)
              · have h625 := zb_n.mp h625
                refine zx_iconst dL_acts_628 ?_
                refine zx_goto (tgt := 633) dL_acts_629 (by decide) ?_
                refine zx_isub dL_acts_633 ?_
                refine zx_icmp_ne (tgt := 680) (by first | exact hz574 _ _ | assumption | exact zr_b _ | exact zcmp_r _ _ | exact hzD _ _ | exact zr3 (tS_b hW _) | exact zr3 (lsc_b hW _ _) | exact zr3 (sc_b hW _ _) | exact rkP_zr hW _ | exact scA_zr hW _ _ | exact zr3 (cW_b hW) | exact zr3 (wS_b hW) | exact zr3 (wS_b hWn) | (unfold zr at *; omega)) (by first | exact hz574 _ _ | assumption | exact zr_b _ | exact zcmp_r _ _ | exact hzD _ _ | exact zr3 (tS_b hW _) | exact zr3 (lsc_b hW _ _) | exact zr3 (sc_b hW _ _) | exact rkP_zr hW _ | exact scA_zr hW _ _ | exact zr3 (cW_b hW) | exact zr3 (wS_b hW) | exact zr3 (wS_b hWn) | (unfold zr at *; omega)) dL_acts_634 (by decide) (fun h634 => ?_) (fun h634 => ?_)
                · exfalso
                  first
                  | exact absurd rfl h647
                  | exact hd_a (by omega) hne ((hasDev_l hl (p := (x % D 1 0).toNat) (by show (((x % D 1 0).toNat : Nat) : Int) < D 1 0; omega) (z % 5)).mp h660)
                  | exact h673 ((hasDev_l hl (p := (y % D 1 0).toNat) (by show (((y % D 1 0).toNat : Nat) : Int) < D 1 0; omega) (z % 5)).mpr (hd_b (by omega)))
                  | (rw [zb_t h625] at eO; omega)
                  | (rw [zb_f h625] at eO; omega)
                · refine zx_iload dL_acts_637 rfl ?_
                  refine zx_aloadN dL_acts_639 rfl rfl ?_
                  refine zx_iload dL_acts_640 rfl ?_
                  refine zx_iconst dL_acts_642 ?_
                  refine zx_irem (by omega) (by omega) (by omega) (by omega) dL_acts_643 ?_
                  refine zy_cv [zi (z % 5)] (fX9_deviceOwners  hfl hz574 rfl hr574.2.2.2.2.2.1 (by first | exact hz574 _ _ | assumption | exact zr_b _ | exact zcmp_r _ _ | exact hzD _ _ | exact zr3 (tS_b hW _) | exact zr3 (lsc_b hW _ _) | exact zr3 (sc_b hW _ _) | exact rkP_zr hW _ | exact scA_zr hW _ _ | exact zr3 (cW_b hW) | exact zr3 (wS_b hW) | exact zr3 (wS_b hWn) | (unfold zr at *; omega))) dL_acts_644 (by decide) rfl cw_RL_238 okX9_deviceOwners rfl (Nat.le_of_ble_eq_true rfl) ⟨Nat.le_of_ble_eq_true rfl, Nat.le_of_ble_eq_true rfl, Nat.le_of_ble_eq_true rfl, Nat.le_of_ble_eq_true rfl⟩ ?_
                  refine zy_top (b := zs (fun p => zb (hasDev (lnB D (x % D 1 0).toNat (y % D 1 0).toNat (z % 5)) p (z % 5))) (D 1 0).toNat) (own_l hl (z % 5)) ?_
                  refine zx_icmp_ne (tgt := 680) (by first | exact hz574 _ _ | assumption | exact zr_b _ | exact zcmp_r _ _ | exact hzD _ _ | exact zr3 (tS_b hW _) | exact zr3 (lsc_b hW _ _) | exact zr3 (sc_b hW _ _) | exact rkP_zr hW _ | exact scA_zr hW _ _ | exact zr3 (cW_b hW) | exact zr3 (wS_b hW) | exact zr3 (wS_b hWn) | (unfold zr at *; omega)) (by first | exact hz574 _ _ | assumption | exact zr_b _ | exact zcmp_r _ _ | exact hzD _ _ | exact zr3 (tS_b hW _) | exact zr3 (lsc_b hW _ _) | exact zr3 (sc_b hW _ _) | exact rkP_zr hW _ | exact scA_zr hW _ _ | exact zr3 (cW_b hW) | exact zr3 (wS_b hW) | exact zr3 (wS_b hWn) | (unfold zr at *; omega)) dL_acts_647 (by decide) (fun h647 => ?_) (fun h647 => ?_)
                  · exfalso
                    first
                    | exact absurd rfl h647
                    | exact hd_a (by omega) hne ((hasDev_l hl (p := (x % D 1 0).toNat) (by show (((x % D 1 0).toNat : Nat) : Int) < D 1 0; omega) (z % 5)).mp h660)
                    | exact h673 ((hasDev_l hl (p := (y % D 1 0).toNat) (by show (((y % D 1 0).toNat : Nat) : Int) < D 1 0; omega) (z % 5)).mpr (hd_b (by omega)))
                    | (rw [zb_t h625] at eO; omega)
                    | (rw [zb_f h625] at eO; omega)
                  · refine zx_aloadN dL_acts_650 rfl rfl ?_
                    refine zx_iload dL_acts_651 rfl ?_
                    refine zx_iload dL_acts_653 rfl ?_
                    refine zx_iconst dL_acts_655 ?_
                    refine zx_irem (by omega) (by omega) (by omega) (by omega) dL_acts_656 ?_
                    refine zy_cv [zi (x % (D 1 0)), zi (z % 5)] (fX9_hasDevice  hfl hz574 rfl hr574.2.2.2.2.2.1 (by first | exact hz574 _ _ | assumption | exact zr_b _ | exact zcmp_r _ _ | exact hzD _ _ | exact zr3 (tS_b hW _) | exact zr3 (lsc_b hW _ _) | exact zr3 (sc_b hW _ _) | exact rkP_zr hW _ | exact scA_zr hW _ _ | exact zr3 (cW_b hW) | exact zr3 (wS_b hW) | exact zr3 (wS_b hWn) | (unfold zr at *; omega)) (by first | exact hz574 _ _ | assumption | exact zr_b _ | exact zcmp_r _ _ | exact hzD _ _ | exact zr3 (tS_b hW _) | exact zr3 (lsc_b hW _ _) | exact zr3 (sc_b hW _ _) | exact rkP_zr hW _ | exact scA_zr hW _ _ | exact zr3 (cW_b hW) | exact zr3 (wS_b hW) | exact zr3 (wS_b hWn) | (unfold zr at *; omega)) (by first | assumption | omega)) dL_acts_657 (by decide) rfl cw_RL_136 okX9_hasDevice rfl (Nat.le_of_ble_eq_true rfl) ⟨Nat.le_of_ble_eq_true rfl, Nat.le_of_ble_eq_true rfl, Nat.le_of_ble_eq_true rfl, Nat.le_of_ble_eq_true rfl⟩ ?_
                    refine zx_if_ne (tgt := 680) (by first | exact hz574 _ _ | assumption | exact zr_b _ | exact zcmp_r _ _ | exact hzD _ _ | exact zr3 (tS_b hW _) | exact zr3 (lsc_b hW _ _) | exact zr3 (sc_b hW _ _) | exact rkP_zr hW _ | exact scA_zr hW _ _ | exact zr3 (cW_b hW) | exact zr3 (wS_b hW) | exact zr3 (wS_b hWn) | (unfold zr at *; omega)) dL_acts_660 (by decide) (fun h660 => ?_) (fun h660 => ?_)
                    · have h660 := zb_n.mp h660
                      exfalso
                      first
                      | exact absurd rfl h647
                      | exact hd_a (by omega) hne ((hasDev_l hl (p := (x % D 1 0).toNat) (by show (((x % D 1 0).toNat : Nat) : Int) < D 1 0; omega) (z % 5)).mp h660)
                      | exact h673 ((hasDev_l hl (p := (y % D 1 0).toNat) (by show (((y % D 1 0).toNat : Nat) : Int) < D 1 0; omega) (z % 5)).mpr (hd_b (by omega)))
                      | (rw [zb_t h625] at eO; omega)
                      | (rw [zb_f h625] at eO; omega)
                    · have h660 := zb_0.mp h660
                      refine zx_aloadN dL_acts_663 rfl rfl ?_
                      refine zx_iload dL_acts_664 rfl ?_
                      refine zx_iload dL_acts_666 rfl ?_
                      refine zx_iconst dL_acts_668 ?_
                      refine zx_irem (by omega) (by omega) (by omega) (by omega) dL_acts_669 ?_
                      refine zy_cv [zi (y % (D 1 0)), zi (z % 5)] (fX9_hasDevice  hfl hz574 rfl hr574.2.2.2.2.2.1 (by first | exact hz574 _ _ | assumption | exact zr_b _ | exact zcmp_r _ _ | exact hzD _ _ | exact zr3 (tS_b hW _) | exact zr3 (lsc_b hW _ _) | exact zr3 (sc_b hW _ _) | exact rkP_zr hW _ | exact scA_zr hW _ _ | exact zr3 (cW_b hW) | exact zr3 (wS_b hW) | exact zr3 (wS_b hWn) | (unfold zr at *; omega)) (by first | exact hz574 _ _ | assumption | exact zr_b _ | exact zcmp_r _ _ | exact hzD _ _ | exact zr3 (tS_b hW _) | exact zr3 (lsc_b hW _ _) | exact zr3 (sc_b hW _ _) | exact rkP_zr hW _ | exact scA_zr hW _ _ | exact zr3 (cW_b hW) | exact zr3 (wS_b hW) | exact zr3 (wS_b hWn) | (unfold zr at *; omega)) (by first | assumption | omega)) dL_acts_670 (by decide) rfl cw_RL_136 okX9_hasDevice rfl (Nat.le_of_ble_eq_true rfl) ⟨Nat.le_of_ble_eq_true rfl, Nat.le_of_ble_eq_true rfl, Nat.le_of_ble_eq_true rfl, Nat.le_of_ble_eq_true rfl⟩ ?_
                      refine zx_if_eq (tgt := 680) (by first | exact hz574 _ _ | assumption | exact zr_b _ | exact zcmp_r _ _ | exact hzD _ _ | exact zr3 (tS_b hW _) | exact zr3 (lsc_b hW _ _) | exact zr3 (sc_b hW _ _) | exact rkP_zr hW _ | exact scA_zr hW _ _ | exact zr3 (cW_b hW) | exact zr3 (wS_b hW) | exact zr3 (wS_b hWn) | (unfold zr at *; omega)) dL_acts_673 (by decide) (fun h673 => ?_) (fun h673 => ?_)
                      · have h673 := zb_0.mp h673
                        exfalso
                        first
                        | exact absurd rfl h647
                        | exact hd_a (by omega) hne ((hasDev_l hl (p := (x % D 1 0).toNat) (by show (((x % D 1 0).toNat : Nat) : Int) < D 1 0; omega) (z % 5)).mp h660)
                        | exact h673 ((hasDev_l hl (p := (y % D 1 0).toNat) (by show (((y % D 1 0).toNat : Nat) : Int) < D 1 0; omega) (z % 5)).mpr (hd_b (by omega)))
                        | (rw [zb_t h625] at eO; omega)
                        | (rw [zb_f h625] at eO; omega)
                      · have h673 := zb_n.mp h673
                        refine zx_iconst dL_acts_676 ?_
                        refine zx_goto (tgt := 681) dL_acts_677 (by decide) ?_
                        refine zx_iret rfl rfl dL_acts_681 ?_
                        rw [hQ]
                        refine ⟨congrArg (fun z : Int => (Sum.inl (some (zi z)) : Option zV ⊕ String)) ?_, ?_⟩
                        · first | rfl | assumption | omega
                        exact AP_e (aB_8 (fun q => q.elim hb574 hb574b)) (AP_d (zSame_rf _ _) hr574 (zSame_rf _ _) hz574)
            · have h601 := zb_0.mp h601
              exfalso; exact hb574b h601
          · exfalso; omega
    refine zx_tableIn (off := 490) (tgt := 512) (by unfold zr; omega) dL_acts_22 (by omega) (by omega) rfl (by decide) ?_
    exact J512
  · refine zx_iconst dL_acts_11 ?_
    refine zx_goto (tgt := 19) dL_acts_12 (by decide) ?_
    refine zy_istore [zf 9 0, zi mk, zi 8, zi x, zi y, zi z, zi (D 12 0), zi 0, zu, zu, zu, zu, zu, zu] dL_acts_19 (Nat.le_of_ble_eq_true rfl) (Nat.le_of_ble_eq_true rfl) rfl rfl ?_
    refine zx_iloadN dL_acts_21 rfl rfl ?_
    have J512 : zX l w mL_acts (zMQ w 12 1 Q) 512 [zf 9 0, zi mk, zi 8, zi x, zi y, zi z, zi (D 12 0), zi 0, zu, zu, zu, zu, zu, zu] [] 0 σ := by
      refine zx_iloadN dL_acts_512 rfl rfl ?_
      refine zx_aloadN dL_acts_513 rfl rfl ?_
      refine zy_cv [] (fX9_printerCount  hfl hz hB hW) dL_acts_514 (by decide) rfl cw_RL_133 okX9_printerCount rfl (Nat.le_of_ble_eq_true rfl) ⟨Nat.le_of_ble_eq_true rfl, Nat.le_of_ble_eq_true rfl, Nat.le_of_ble_eq_true rfl, Nat.le_of_ble_eq_true rfl⟩ ?_
      refine zx_irem (by omega) (by omega) (by omega) (by omega) dL_acts_517 ?_
      refine zy_istore [zf 9 0, zi mk, zi 8, zi x, zi y, zi z, zi (D 12 0), zi 0, zi (x % (D 1 0)), zu, zu, zu, zu, zu] dL_acts_518 (Nat.le_of_ble_eq_true rfl) (Nat.le_of_ble_eq_true rfl) rfl rfl ?_
      refine zx_iload dL_acts_520 rfl ?_
      refine zx_aloadN dL_acts_522 rfl rfl ?_
      refine zy_cv [] (fX9_printerCount  hfl hz hB hW) dL_acts_523 (by decide) rfl cw_RL_133 okX9_printerCount rfl (Nat.le_of_ble_eq_true rfl) ⟨Nat.le_of_ble_eq_true rfl, Nat.le_of_ble_eq_true rfl, Nat.le_of_ble_eq_true rfl, Nat.le_of_ble_eq_true rfl⟩ ?_
      refine zx_irem (by omega) (by omega) (by omega) (by omega) dL_acts_526 ?_
      refine zy_istore [zf 9 0, zi mk, zi 8, zi x, zi y, zi z, zi (D 12 0), zi 0, zi (x % (D 1 0)), zi (y % (D 1 0)), zu, zu, zu, zu] dL_acts_527 (Nat.le_of_ble_eq_true rfl) (Nat.le_of_ble_eq_true rfl) rfl rfl ?_
      refine zx_aloadN dL_acts_529 rfl rfl ?_
      refine zx_iload dL_acts_530 rfl ?_
      refine zx_iload dL_acts_532 rfl ?_
      refine zx_iconst dL_acts_534 ?_
      refine zx_irem (by omega) (by omega) (by omega) (by omega) dL_acts_535 ?_
      refine zy_cv [zi (x % (D 1 0)), zi (z % 5)] (fX9_hasDevice  hfl hz hB hW (by first | exact hz _ _ | assumption | exact zr_b _ | exact zcmp_r _ _ | exact hzD _ _ | exact zr3 (tS_b hW _) | exact zr3 (lsc_b hW _ _) | exact zr3 (sc_b hW _ _) | exact rkP_zr hW _ | exact scA_zr hW _ _ | exact zr3 (cW_b hW) | exact zr3 (wS_b hW) | exact zr3 (wS_b hWn) | (unfold zr at *; omega)) (by first | exact hz _ _ | assumption | exact zr_b _ | exact zcmp_r _ _ | exact hzD _ _ | exact zr3 (tS_b hW _) | exact zr3 (lsc_b hW _ _) | exact zr3 (sc_b hW _ _) | exact rkP_zr hW _ | exact scA_zr hW _ _ | exact zr3 (cW_b hW) | exact zr3 (wS_b hW) | exact zr3 (wS_b hWn) | (unfold zr at *; omega)) (by first | assumption | omega)) dL_acts_536 (by decide) rfl cw_RL_136 okX9_hasDevice rfl (Nat.le_of_ble_eq_true rfl) ⟨Nat.le_of_ble_eq_true rfl, Nat.le_of_ble_eq_true rfl, Nat.le_of_ble_eq_true rfl, Nat.le_of_ble_eq_true rfl⟩ ?_
      refine zy_istore [zf 9 0, zi mk, zi 8, zi x, zi y, zi z, zi (D 12 0), zi 0, zi (x % (D 1 0)), zi (y % (D 1 0)), zi (zb (hasDev D (x % (D 1 0)).toNat (z % 5))), zu, zu, zu] dL_acts_539 (Nat.le_of_ble_eq_true rfl) (Nat.le_of_ble_eq_true rfl) rfl rfl ?_
      refine zx_aloadN dL_acts_541 rfl rfl ?_
      refine zx_iload dL_acts_542 rfl ?_
      refine zx_iload dL_acts_544 rfl ?_
      refine zx_iconst dL_acts_546 ?_
      refine zx_irem (by omega) (by omega) (by omega) (by omega) dL_acts_547 ?_
      refine zy_cv [zi (y % (D 1 0)), zi (z % 5)] (fX9_hasDevice  hfl hz hB hW (by first | exact hz _ _ | assumption | exact zr_b _ | exact zcmp_r _ _ | exact hzD _ _ | exact zr3 (tS_b hW _) | exact zr3 (lsc_b hW _ _) | exact zr3 (sc_b hW _ _) | exact rkP_zr hW _ | exact scA_zr hW _ _ | exact zr3 (cW_b hW) | exact zr3 (wS_b hW) | exact zr3 (wS_b hWn) | (unfold zr at *; omega)) (by first | exact hz _ _ | assumption | exact zr_b _ | exact zcmp_r _ _ | exact hzD _ _ | exact zr3 (tS_b hW _) | exact zr3 (lsc_b hW _ _) | exact zr3 (sc_b hW _ _) | exact rkP_zr hW _ | exact scA_zr hW _ _ | exact zr3 (cW_b hW) | exact zr3 (wS_b hW) | exact zr3 (wS_b hWn) | (unfold zr at *; omega)) (by first | assumption | omega)) dL_acts_548 (by decide) rfl cw_RL_136 okX9_hasDevice rfl (Nat.le_of_ble_eq_true rfl) ⟨Nat.le_of_ble_eq_true rfl, Nat.le_of_ble_eq_true rfl, Nat.le_of_ble_eq_true rfl, Nat.le_of_ble_eq_true rfl⟩ ?_
      refine zy_istore [zf 9 0, zi mk, zi 8, zi x, zi y, zi z, zi (D 12 0), zi 0, zi (x % (D 1 0)), zi (y % (D 1 0)), zi (zb (hasDev D (x % (D 1 0)).toNat (z % 5))), zi (zb (hasDev D (y % (D 1 0)).toNat (z % 5))), zu, zu] dL_acts_551 (Nat.le_of_ble_eq_true rfl) (Nat.le_of_ble_eq_true rfl) rfl rfl ?_
      refine zx_aloadN dL_acts_553 rfl rfl ?_
      refine zx_iload dL_acts_554 rfl ?_
      refine zx_iconst dL_acts_556 ?_
      refine zx_irem (by omega) (by omega) (by omega) (by omega) dL_acts_557 ?_
      refine zy_cv [zi (z % 5)] (fX9_deviceOwners  hfl hz hB hW (by first | exact hz _ _ | assumption | exact zr_b _ | exact zcmp_r _ _ | exact hzD _ _ | exact zr3 (tS_b hW _) | exact zr3 (lsc_b hW _ _) | exact zr3 (sc_b hW _ _) | exact rkP_zr hW _ | exact scA_zr hW _ _ | exact zr3 (cW_b hW) | exact zr3 (wS_b hW) | exact zr3 (wS_b hWn) | (unfold zr at *; omega))) dL_acts_558 (by decide) rfl cw_RL_238 okX9_deviceOwners rfl (Nat.le_of_ble_eq_true rfl) ⟨Nat.le_of_ble_eq_true rfl, Nat.le_of_ble_eq_true rfl, Nat.le_of_ble_eq_true rfl, Nat.le_of_ble_eq_true rfl⟩ ?_
      refine zy_istore [zf 9 0, zi mk, zi 8, zi x, zi y, zi z, zi (D 12 0), zi 0, zi (x % (D 1 0)), zi (y % (D 1 0)), zi (zb (hasDev D (x % (D 1 0)).toNat (z % 5))), zi (zb (hasDev D (y % (D 1 0)).toNat (z % 5))), zi (zs (fun p => zb (hasDev D p (z % 5))) (D 1 0).toNat), zu] dL_acts_561 (Nat.le_of_ble_eq_true rfl) (Nat.le_of_ble_eq_true rfl) rfl rfl ?_
      refine zx_aloadN dL_acts_563 rfl rfl ?_
      refine zx_bipush dL_acts_564 rfl ?_
      refine zx_iload dL_acts_566 rfl ?_
      refine zx_iload dL_acts_568 rfl ?_
      refine zx_iload dL_acts_570 rfl ?_
      refine zx_iconst dL_acts_572 ?_
      refine zx_irem (by omega) (by omega) (by omega) (by omega) dL_acts_573 ?_
      by_cases hb574 : (x % (D 1 0)) = (y % (D 1 0))
      · refine zy_csHR [zf 9 0, zi 10, zi (x % (D 1 0)), zi (y % (D 1 0)), zi (z % 5)] (sL_does_lend_f2  hfl hz hB hW (HN_j hN (zSame_rf _ _)) (HBA_j hA (zSame_rf _ _)) (by first | assumption | omega) (by first | assumption | omega) (by first | assumption | omega) (by first | assumption | omega)) dL_acts_574 cw_RL_231 okL_does rfl (Nat.le_of_ble_eq_true rfl) ⟨Nat.le_of_ble_eq_true rfl, Nat.le_of_ble_eq_true rfl, Nat.le_of_ble_eq_true rfl, Nat.le_of_ble_eq_true rfl⟩ (fun τ574 hr574 => ?_)
        have hz574 : zOK τ574 := hr574.1
        refine zy_istore [zf 9 0, zi mk, zi 8, zi x, zi y, zi z, zi (D 12 0), zi 0, zi (x % (D 1 0)), zi (y % (D 1 0)), zi (zb (hasDev D (x % (D 1 0)).toNat (z % 5))), zi (zb (hasDev D (y % (D 1 0)).toNat (z % 5))), zi (zs (fun p => zb (hasDev D p (z % 5))) (D 1 0).toNat), zi (-102)] dL_acts_577 (Nat.le_of_ble_eq_true rfl) (Nat.le_of_ble_eq_true rfl) rfl rfl ?_
        refine zx_iload dL_acts_579 rfl ?_
        refine zx_iload dL_acts_581 rfl ?_
        refine zx_icmp_ne (tgt := 599) (by first | exact hz574 _ _ | assumption | exact zr_b _ | exact zcmp_r _ _ | exact hzD _ _ | exact zr3 (tS_b hW _) | exact zr3 (lsc_b hW _ _) | exact zr3 (sc_b hW _ _) | exact rkP_zr hW _ | exact scA_zr hW _ _ | exact zr3 (cW_b hW) | exact zr3 (wS_b hW) | exact zr3 (wS_b hWn) | (unfold zr at *; omega)) (by first | exact hz574 _ _ | assumption | exact zr_b _ | exact zcmp_r _ _ | exact hzD _ _ | exact zr3 (tS_b hW _) | exact zr3 (lsc_b hW _ _) | exact zr3 (sc_b hW _ _) | exact rkP_zr hW _ | exact scA_zr hW _ _ | exact zr3 (cW_b hW) | exact zr3 (wS_b hW) | exact zr3 (wS_b hWn) | (unfold zr at *; omega)) dL_acts_583 (by decide) (fun h583 => ?_) (fun h583 => ?_)
        · exfalso; omega
        · refine zx_iload dL_acts_586 rfl ?_
          refine zx_bipush dL_acts_588 rfl ?_
          refine zx_icmp_ne (tgt := 597) (by first | exact hz574 _ _ | assumption | exact zr_b _ | exact zcmp_r _ _ | exact hzD _ _ | exact zr3 (tS_b hW _) | exact zr3 (lsc_b hW _ _) | exact zr3 (sc_b hW _ _) | exact rkP_zr hW _ | exact scA_zr hW _ _ | exact zr3 (cW_b hW) | exact zr3 (wS_b hW) | exact zr3 (wS_b hWn) | (unfold zr at *; omega)) (by first | exact hz574 _ _ | assumption | exact zr_b _ | exact zcmp_r _ _ | exact hzD _ _ | exact zr3 (tS_b hW _) | exact zr3 (lsc_b hW _ _) | exact zr3 (sc_b hW _ _) | exact rkP_zr hW _ | exact scA_zr hW _ _ | exact zr3 (cW_b hW) | exact zr3 (wS_b hW) | exact zr3 (wS_b hWn) | (unfold zr at *; omega)) dL_acts_590 (by decide) (fun h590 => ?_) (fun h590 => ?_)
          · exact absurd h590 (by decide)
          · refine zx_iconst dL_acts_593 ?_
            refine zx_goto (tgt := 598) dL_acts_594 (by decide) ?_
            refine zx_iret rfl rfl dL_acts_598 ?_
            rw [hQ]
            refine ⟨congrArg (fun z : Int => (Sum.inl (some (zi z)) : Option zV ⊕ String)) ?_, ?_⟩
            · first | rfl | assumption | omega
            exact AP_e (aB_7 (Or.inl hb574)) (AP_f hW (zSame_rf _ _) hr574 (zSame_rf _ _) hz574 rfl)
      · by_cases hb574b : ¬ hasDev D (x % (D 1 0)).toNat (z % 5)
        · refine zy_csHR [zf 9 0, zi 10, zi (x % (D 1 0)), zi (y % (D 1 0)), zi (z % 5)] (sL_does_lend_f3  hfl hz hB hW (HN_j hN (zSame_rf _ _)) (HBA_j hA (zSame_rf _ _)) (by first | assumption | omega) (by first | assumption | omega) (by first | assumption | omega) (by first | assumption | omega) (by first | assumption | omega)) dL_acts_574 cw_RL_231 okL_does rfl (Nat.le_of_ble_eq_true rfl) ⟨Nat.le_of_ble_eq_true rfl, Nat.le_of_ble_eq_true rfl, Nat.le_of_ble_eq_true rfl, Nat.le_of_ble_eq_true rfl⟩ (fun τ574 hr574 => ?_)
          have hz574 : zOK τ574 := hr574.1
          refine zy_istore [zf 9 0, zi mk, zi 8, zi x, zi y, zi z, zi (D 12 0), zi 0, zi (x % (D 1 0)), zi (y % (D 1 0)), zi (zb (hasDev D (x % (D 1 0)).toNat (z % 5))), zi (zb (hasDev D (y % (D 1 0)).toNat (z % 5))), zi (zs (fun p => zb (hasDev D p (z % 5))) (D 1 0).toNat), zi (-103)] dL_acts_577 (Nat.le_of_ble_eq_true rfl) (Nat.le_of_ble_eq_true rfl) rfl rfl ?_
          refine zx_iload dL_acts_579 rfl ?_
          refine zx_iload dL_acts_581 rfl ?_
          refine zx_icmp_ne (tgt := 599) (by first | exact hz574 _ _ | assumption | exact zr_b _ | exact zcmp_r _ _ | exact hzD _ _ | exact zr3 (tS_b hW _) | exact zr3 (lsc_b hW _ _) | exact zr3 (sc_b hW _ _) | exact rkP_zr hW _ | exact scA_zr hW _ _ | exact zr3 (cW_b hW) | exact zr3 (wS_b hW) | exact zr3 (wS_b hWn) | (unfold zr at *; omega)) (by first | exact hz574 _ _ | assumption | exact zr_b _ | exact zcmp_r _ _ | exact hzD _ _ | exact zr3 (tS_b hW _) | exact zr3 (lsc_b hW _ _) | exact zr3 (sc_b hW _ _) | exact rkP_zr hW _ | exact scA_zr hW _ _ | exact zr3 (cW_b hW) | exact zr3 (wS_b hW) | exact zr3 (wS_b hWn) | (unfold zr at *; omega)) dL_acts_583 (by decide) (fun h583 => ?_) (fun h583 => ?_)
          · refine zx_iload dL_acts_599 rfl ?_
            refine zx_if_ne (tgt := 619) (by first | exact hz574 _ _ | assumption | exact zr_b _ | exact zcmp_r _ _ | exact hzD _ _ | exact zr3 (tS_b hW _) | exact zr3 (lsc_b hW _ _) | exact zr3 (sc_b hW _ _) | exact rkP_zr hW _ | exact scA_zr hW _ _ | exact zr3 (cW_b hW) | exact zr3 (wS_b hW) | exact zr3 (wS_b hWn) | (unfold zr at *; omega)) dL_acts_601 (by decide) (fun h601 => ?_) (fun h601 => ?_)
            · have h601 := zb_n.mp h601
              exfalso; exact hb574b h601
            · have h601 := zb_0.mp h601
              refine zx_iload dL_acts_604 rfl ?_
              refine zx_bipush dL_acts_606 rfl ?_
              refine zx_icmp_ne (tgt := 615) (by first | exact hz574 _ _ | assumption | exact zr_b _ | exact zcmp_r _ _ | exact hzD _ _ | exact zr3 (tS_b hW _) | exact zr3 (lsc_b hW _ _) | exact zr3 (sc_b hW _ _) | exact rkP_zr hW _ | exact scA_zr hW _ _ | exact zr3 (cW_b hW) | exact zr3 (wS_b hW) | exact zr3 (wS_b hWn) | (unfold zr at *; omega)) (by first | exact hz574 _ _ | assumption | exact zr_b _ | exact zcmp_r _ _ | exact hzD _ _ | exact zr3 (tS_b hW _) | exact zr3 (lsc_b hW _ _) | exact zr3 (sc_b hW _ _) | exact rkP_zr hW _ | exact scA_zr hW _ _ | exact zr3 (cW_b hW) | exact zr3 (wS_b hW) | exact zr3 (wS_b hWn) | (unfold zr at *; omega)) dL_acts_608 (by decide) (fun h608 => ?_) (fun h608 => ?_)
              · exact absurd h608 (by decide)
              · refine zx_iconst dL_acts_611 ?_
                refine zx_goto (tgt := 681) dL_acts_612 (by decide) ?_
                refine zx_iret rfl rfl dL_acts_681 ?_
                rw [hQ]
                refine ⟨congrArg (fun z : Int => (Sum.inl (some (zi z)) : Option zV ⊕ String)) ?_, ?_⟩
                · first | rfl | assumption | omega
                exact AP_e (aB_7 (Or.inr hb574b)) (AP_f hW (zSame_rf _ _) hr574 (zSame_rf _ _) hz574 rfl)
          · exfalso; omega
        · refine zy_csHR [zf 9 0, zi 10, zi (x % (D 1 0)), zi (y % (D 1 0)), zi (z % 5)] (sL_does_lend  hfl hz hB hW (HN_j hN (zSame_rf _ _)) (HBA_j hA (zSame_rf _ _)) (by first | assumption | omega) (by first | assumption | omega) (by first | assumption | omega) (by first | assumption | omega) (Classical.not_not.mp hb574b)) dL_acts_574 cw_RL_231 okL_does rfl (Nat.le_of_ble_eq_true rfl) ⟨Nat.le_of_ble_eq_true rfl, Nat.le_of_ble_eq_true rfl, Nat.le_of_ble_eq_true rfl, Nat.le_of_ble_eq_true rfl⟩ (fun τ574 hr574 => ?_)
          have hz574 : zOK τ574 := hr574.1
          have hl := hr574.2.2.2.2.2.2
          have hWn := hr574.2.2.2.2.2.1
          have hzDn := hzDof (rfl : bK τ574 = bK τ574) hz574
          have e12 : (bK τ574) 12 0 = D 12 0 := hl.1.2.2.2
          have e1 : (bK τ574) 1 0 = D 1 0 := hl.1.1
          have hne : ¬ (x % D 1 0).toNat = (y % D 1 0).toNat := by omega
          have hob2 := zsb_le (fun p => hasDev (lnB D (x % D 1 0).toNat (y % D 1 0).toNat (z % 5)) p (z % 5)) (D 1 0).toNat
          have eO := own_ln (D := D) (a := (x % D 1 0).toNat) (b := (y % D 1 0).toNat) (d := z % 5) (by omega) hne (Classical.not_not.mp hb574b) (m := (D 1 0).toNat) (by omega) (by omega)
          refine zy_istore [zf 9 0, zi mk, zi 8, zi x, zi y, zi z, zi (D 12 0), zi 0, zi (x % (D 1 0)), zi (y % (D 1 0)), zi (zb (hasDev D (x % (D 1 0)).toNat (z % 5))), zi (zb (hasDev D (y % (D 1 0)).toNat (z % 5))), zi (zs (fun p => zb (hasDev D p (z % 5))) (D 1 0).toNat), zi (zs (fun p => zb (hasDev (lnB D (x % (D 1 0)).toNat (y % (D 1 0)).toNat (z % 5)) p (z % 5))) (D 1 0).toNat)] dL_acts_577 (Nat.le_of_ble_eq_true rfl) (Nat.le_of_ble_eq_true rfl) rfl rfl ?_
          refine zx_iload dL_acts_579 rfl ?_
          refine zx_iload dL_acts_581 rfl ?_
          refine zx_icmp_ne (tgt := 599) (by first | exact hz574 _ _ | assumption | exact zr_b _ | exact zcmp_r _ _ | exact hzD _ _ | exact zr3 (tS_b hW _) | exact zr3 (lsc_b hW _ _) | exact zr3 (sc_b hW _ _) | exact rkP_zr hW _ | exact scA_zr hW _ _ | exact zr3 (cW_b hW) | exact zr3 (wS_b hW) | exact zr3 (wS_b hWn) | (unfold zr at *; omega)) (by first | exact hz574 _ _ | assumption | exact zr_b _ | exact zcmp_r _ _ | exact hzD _ _ | exact zr3 (tS_b hW _) | exact zr3 (lsc_b hW _ _) | exact zr3 (sc_b hW _ _) | exact rkP_zr hW _ | exact scA_zr hW _ _ | exact zr3 (cW_b hW) | exact zr3 (wS_b hW) | exact zr3 (wS_b hWn) | (unfold zr at *; omega)) dL_acts_583 (by decide) (fun h583 => ?_) (fun h583 => ?_)
          · refine zx_iload dL_acts_599 rfl ?_
            refine zx_if_ne (tgt := 619) (by first | exact hz574 _ _ | assumption | exact zr_b _ | exact zcmp_r _ _ | exact hzD _ _ | exact zr3 (tS_b hW _) | exact zr3 (lsc_b hW _ _) | exact zr3 (sc_b hW _ _) | exact rkP_zr hW _ | exact scA_zr hW _ _ | exact zr3 (cW_b hW) | exact zr3 (wS_b hW) | exact zr3 (wS_b hWn) | (unfold zr at *; omega)) dL_acts_601 (by decide) (fun h601 => ?_) (fun h601 => ?_)
            · have h601 := zb_n.mp h601
              refine zx_iload dL_acts_619 rfl ?_
              refine zx_iload dL_acts_621 rfl ?_
              refine zx_iload dL_acts_623 rfl ?_
              refine zx_if_eq (tgt := 632) (by first | exact hz574 _ _ | assumption | exact zr_b _ | exact zcmp_r _ _ | exact hzD _ _ | exact zr3 (tS_b hW _) | exact zr3 (lsc_b hW _ _) | exact zr3 (sc_b hW _ _) | exact rkP_zr hW _ | exact scA_zr hW _ _ | exact zr3 (cW_b hW) | exact zr3 (wS_b hW) | exact zr3 (wS_b hWn) | (unfold zr at *; omega)) dL_acts_625 (by decide) (fun h625 => ?_) (fun h625 => ?_)
              · have h625 := zb_0.mp h625
                refine zx_iconst dL_acts_632 ?_
                refine zx_isub dL_acts_633 ?_
                refine zx_icmp_ne (tgt := 680) (by first | exact hz574 _ _ | assumption | exact zr_b _ | exact zcmp_r _ _ | exact hzD _ _ | exact zr3 (tS_b hW _) | exact zr3 (lsc_b hW _ _) | exact zr3 (sc_b hW _ _) | exact rkP_zr hW _ | exact scA_zr hW _ _ | exact zr3 (cW_b hW) | exact zr3 (wS_b hW) | exact zr3 (wS_b hWn) | (unfold zr at *; omega)) (by first | exact hz574 _ _ | assumption | exact zr_b _ | exact zcmp_r _ _ | exact hzD _ _ | exact zr3 (tS_b hW _) | exact zr3 (lsc_b hW _ _) | exact zr3 (sc_b hW _ _) | exact rkP_zr hW _ | exact scA_zr hW _ _ | exact zr3 (cW_b hW) | exact zr3 (wS_b hW) | exact zr3 (wS_b hWn) | (unfold zr at *; omega)) dL_acts_634 (by decide) (fun h634 => ?_) (fun h634 => ?_)
                · exfalso
                  first
                  | exact absurd rfl h647
                  | exact hd_a (by omega) hne ((hasDev_l hl (p := (x % D 1 0).toNat) (by show (((x % D 1 0).toNat : Nat) : Int) < D 1 0; omega) (z % 5)).mp h660)
                  | exact h673 ((hasDev_l hl (p := (y % D 1 0).toNat) (by show (((y % D 1 0).toNat : Nat) : Int) < D 1 0; omega) (z % 5)).mpr (hd_b (by omega)))
                  | (rw [zb_t h625] at eO; omega)
                  | (rw [zb_f h625] at eO; omega)
                · refine zx_iload dL_acts_637 rfl ?_
                  refine zx_aloadN dL_acts_639 rfl rfl ?_
                  refine zx_iload dL_acts_640 rfl ?_
                  refine zx_iconst dL_acts_642 ?_
                  refine zx_irem (by omega) (by omega) (by omega) (by omega) dL_acts_643 ?_
                  refine zy_cv [zi (z % 5)] (fX9_deviceOwners  hfl hz574 rfl hr574.2.2.2.2.2.1 (by first | exact hz574 _ _ | assumption | exact zr_b _ | exact zcmp_r _ _ | exact hzD _ _ | exact zr3 (tS_b hW _) | exact zr3 (lsc_b hW _ _) | exact zr3 (sc_b hW _ _) | exact rkP_zr hW _ | exact scA_zr hW _ _ | exact zr3 (cW_b hW) | exact zr3 (wS_b hW) | exact zr3 (wS_b hWn) | (unfold zr at *; omega))) dL_acts_644 (by decide) rfl cw_RL_238 okX9_deviceOwners rfl (Nat.le_of_ble_eq_true rfl) ⟨Nat.le_of_ble_eq_true rfl, Nat.le_of_ble_eq_true rfl, Nat.le_of_ble_eq_true rfl, Nat.le_of_ble_eq_true rfl⟩ ?_
                  refine zy_top (b := zs (fun p => zb (hasDev (lnB D (x % D 1 0).toNat (y % D 1 0).toNat (z % 5)) p (z % 5))) (D 1 0).toNat) (own_l hl (z % 5)) ?_
                  refine zx_icmp_ne (tgt := 680) (by first | exact hz574 _ _ | assumption | exact zr_b _ | exact zcmp_r _ _ | exact hzD _ _ | exact zr3 (tS_b hW _) | exact zr3 (lsc_b hW _ _) | exact zr3 (sc_b hW _ _) | exact rkP_zr hW _ | exact scA_zr hW _ _ | exact zr3 (cW_b hW) | exact zr3 (wS_b hW) | exact zr3 (wS_b hWn) | (unfold zr at *; omega)) (by first | exact hz574 _ _ | assumption | exact zr_b _ | exact zcmp_r _ _ | exact hzD _ _ | exact zr3 (tS_b hW _) | exact zr3 (lsc_b hW _ _) | exact zr3 (sc_b hW _ _) | exact rkP_zr hW _ | exact scA_zr hW _ _ | exact zr3 (cW_b hW) | exact zr3 (wS_b hW) | exact zr3 (wS_b hWn) | (unfold zr at *; omega)) dL_acts_647 (by decide) (fun h647 => ?_) (fun h647 => ?_)
                  · exfalso
                    first
                    | exact absurd rfl h647
                    | exact hd_a (by omega) hne ((hasDev_l hl (p := (x % D 1 0).toNat) (by show (((x % D 1 0).toNat : Nat) : Int) < D 1 0; omega) (z % 5)).mp h660)
                    | exact h673 ((hasDev_l hl (p := (y % D 1 0).toNat) (by show (((y % D 1 0).toNat : Nat) : Int) < D 1 0; omega) (z % 5)).mpr (hd_b (by omega)))
                    | (rw [zb_t h625] at eO; omega)
                    | (rw [zb_f h625] at eO; omega)
                  · refine zx_aloadN dL_acts_650 rfl rfl ?_
                    refine zx_iload dL_acts_651 rfl ?_
                    refine zx_iload dL_acts_653 rfl ?_
                    refine zx_iconst dL_acts_655 ?_
                    refine zx_irem (by omega) (by omega) (by omega) (by omega) dL_acts_656 ?_
                    refine zy_cv [zi (x % (D 1 0)), zi (z % 5)] (fX9_hasDevice  hfl hz574 rfl hr574.2.2.2.2.2.1 (by first | exact hz574 _ _ | assumption | exact zr_b _ | exact zcmp_r _ _ | exact hzD _ _ | exact zr3 (tS_b hW _) | exact zr3 (lsc_b hW _ _) | exact zr3 (sc_b hW _ _) | exact rkP_zr hW _ | exact scA_zr hW _ _ | exact zr3 (cW_b hW) | exact zr3 (wS_b hW) | exact zr3 (wS_b hWn) | (unfold zr at *; omega)) (by first | exact hz574 _ _ | assumption | exact zr_b _ | exact zcmp_r _ _ | exact hzD _ _ | exact zr3 (tS_b hW _) | exact zr3 (lsc_b hW _ _) | exact zr3 (sc_b hW _ _) | exact rkP_zr hW _ | exact scA_zr hW _ _ | exact zr3 (cW_b hW) | exact zr3 (wS_b hW) | exact zr3 (wS_b hWn) | (unfold zr at *; omega)) (by first | assumption | omega)) dL_acts_657 (by decide) rfl cw_RL_136 okX9_hasDevice rfl (Nat.le_of_ble_eq_true rfl) ⟨Nat.le_of_ble_eq_true rfl, Nat.le_of_ble_eq_true rfl, Nat.le_of_ble_eq_true rfl, Nat.le_of_ble_eq_true rfl⟩ ?_
                    refine zx_if_ne (tgt := 680) (by first | exact hz574 _ _ | assumption | exact zr_b _ | exact zcmp_r _ _ | exact hzD _ _ | exact zr3 (tS_b hW _) | exact zr3 (lsc_b hW _ _) | exact zr3 (sc_b hW _ _) | exact rkP_zr hW _ | exact scA_zr hW _ _ | exact zr3 (cW_b hW) | exact zr3 (wS_b hW) | exact zr3 (wS_b hWn) | (unfold zr at *; omega)) dL_acts_660 (by decide) (fun h660 => ?_) (fun h660 => ?_)
                    · have h660 := zb_n.mp h660
                      exfalso
                      first
                      | exact absurd rfl h647
                      | exact hd_a (by omega) hne ((hasDev_l hl (p := (x % D 1 0).toNat) (by show (((x % D 1 0).toNat : Nat) : Int) < D 1 0; omega) (z % 5)).mp h660)
                      | exact h673 ((hasDev_l hl (p := (y % D 1 0).toNat) (by show (((y % D 1 0).toNat : Nat) : Int) < D 1 0; omega) (z % 5)).mpr (hd_b (by omega)))
                      | (rw [zb_t h625] at eO; omega)
                      | (rw [zb_f h625] at eO; omega)
                    · have h660 := zb_0.mp h660
                      refine zx_aloadN dL_acts_663 rfl rfl ?_
                      refine zx_iload dL_acts_664 rfl ?_
                      refine zx_iload dL_acts_666 rfl ?_
                      refine zx_iconst dL_acts_668 ?_
                      refine zx_irem (by omega) (by omega) (by omega) (by omega) dL_acts_669 ?_
                      refine zy_cv [zi (y % (D 1 0)), zi (z % 5)] (fX9_hasDevice  hfl hz574 rfl hr574.2.2.2.2.2.1 (by first | exact hz574 _ _ | assumption | exact zr_b _ | exact zcmp_r _ _ | exact hzD _ _ | exact zr3 (tS_b hW _) | exact zr3 (lsc_b hW _ _) | exact zr3 (sc_b hW _ _) | exact rkP_zr hW _ | exact scA_zr hW _ _ | exact zr3 (cW_b hW) | exact zr3 (wS_b hW) | exact zr3 (wS_b hWn) | (unfold zr at *; omega)) (by first | exact hz574 _ _ | assumption | exact zr_b _ | exact zcmp_r _ _ | exact hzD _ _ | exact zr3 (tS_b hW _) | exact zr3 (lsc_b hW _ _) | exact zr3 (sc_b hW _ _) | exact rkP_zr hW _ | exact scA_zr hW _ _ | exact zr3 (cW_b hW) | exact zr3 (wS_b hW) | exact zr3 (wS_b hWn) | (unfold zr at *; omega)) (by first | assumption | omega)) dL_acts_670 (by decide) rfl cw_RL_136 okX9_hasDevice rfl (Nat.le_of_ble_eq_true rfl) ⟨Nat.le_of_ble_eq_true rfl, Nat.le_of_ble_eq_true rfl, Nat.le_of_ble_eq_true rfl, Nat.le_of_ble_eq_true rfl⟩ ?_
                      refine zx_if_eq (tgt := 680) (by first | exact hz574 _ _ | assumption | exact zr_b _ | exact zcmp_r _ _ | exact hzD _ _ | exact zr3 (tS_b hW _) | exact zr3 (lsc_b hW _ _) | exact zr3 (sc_b hW _ _) | exact rkP_zr hW _ | exact scA_zr hW _ _ | exact zr3 (cW_b hW) | exact zr3 (wS_b hW) | exact zr3 (wS_b hWn) | (unfold zr at *; omega)) dL_acts_673 (by decide) (fun h673 => ?_) (fun h673 => ?_)
                      · have h673 := zb_0.mp h673
                        exfalso
                        first
                        | exact absurd rfl h647
                        | exact hd_a (by omega) hne ((hasDev_l hl (p := (x % D 1 0).toNat) (by show (((x % D 1 0).toNat : Nat) : Int) < D 1 0; omega) (z % 5)).mp h660)
                        | exact h673 ((hasDev_l hl (p := (y % D 1 0).toNat) (by show (((y % D 1 0).toNat : Nat) : Int) < D 1 0; omega) (z % 5)).mpr (hd_b (by omega)))
                        | (rw [zb_t h625] at eO; omega)
                        | (rw [zb_f h625] at eO; omega)
                      · have h673 := zb_n.mp h673
                        refine zx_iconst dL_acts_676 ?_
                        refine zx_goto (tgt := 681) dL_acts_677 (by decide) ?_
                        refine zx_iret rfl rfl dL_acts_681 ?_
                        rw [hQ]
                        refine ⟨congrArg (fun z : Int => (Sum.inl (some (zi z)) : Option zV ⊕ String)) ?_, ?_⟩
                        · first | rfl | assumption | omega
                        exact AP_e (aB_8 (fun q => q.elim hb574 hb574b)) (AP_d (zSame_rf _ _) hr574 (zSame_rf _ _) hz574)
              · have h625 := zb_n.mp h625
                refine zx_iconst dL_acts_628 ?_
                refine zx_goto (tgt := 633) dL_acts_629 (by decide) ?_
                refine zx_isub dL_acts_633 ?_
                refine zx_icmp_ne (tgt := 680) (by first | exact hz574 _ _ | assumption | exact zr_b _ | exact zcmp_r _ _ | exact hzD _ _ | exact zr3 (tS_b hW _) | exact zr3 (lsc_b hW _ _) | exact zr3 (sc_b hW _ _) | exact rkP_zr hW _ | exact scA_zr hW _ _ | exact zr3 (cW_b hW) | exact zr3 (wS_b hW) | exact zr3 (wS_b hWn) | (unfold zr at *; omega)) (by first | exact hz574 _ _ | assumption | exact zr_b _ | exact zcmp_r _ _ | exact hzD _ _ | exact zr3 (tS_b hW _) | exact zr3 (lsc_b hW _ _) | exact zr3 (sc_b hW _ _) | exact rkP_zr hW _ | exact scA_zr hW _ _ | exact zr3 (cW_b hW) | exact zr3 (wS_b hW) | exact zr3 (wS_b hWn) | (unfold zr at *; omega)) dL_acts_634 (by decide) (fun h634 => ?_) (fun h634 => ?_)
                · exfalso
                  first
                  | exact absurd rfl h647
                  | exact hd_a (by omega) hne ((hasDev_l hl (p := (x % D 1 0).toNat) (by show (((x % D 1 0).toNat : Nat) : Int) < D 1 0; omega) (z % 5)).mp h660)
                  | exact h673 ((hasDev_l hl (p := (y % D 1 0).toNat) (by show (((y % D 1 0).toNat : Nat) : Int) < D 1 0; omega) (z % 5)).mpr (hd_b (by omega)))
                  | (rw [zb_t h625] at eO; omega)
                  | (rw [zb_f h625] at eO; omega)
                · refine zx_iload dL_acts_637 rfl ?_
                  refine zx_aloadN dL_acts_639 rfl rfl ?_
                  refine zx_iload dL_acts_640 rfl ?_
                  refine zx_iconst dL_acts_642 ?_
                  refine zx_irem (by omega) (by omega) (by omega) (by omega) dL_acts_643 ?_
                  refine zy_cv [zi (z % 5)] (fX9_deviceOwners  hfl hz574 rfl hr574.2.2.2.2.2.1 (by first | exact hz574 _ _ | assumption | exact zr_b _ | exact zcmp_r _ _ | exact hzD _ _ | exact zr3 (tS_b hW _) | exact zr3 (lsc_b hW _ _) | exact zr3 (sc_b hW _ _) | exact rkP_zr hW _ | exact scA_zr hW _ _ | exact zr3 (cW_b hW) | exact zr3 (wS_b hW) | exact zr3 (wS_b hWn) | (unfold zr at *; omega))) dL_acts_644 (by decide) rfl cw_RL_238 okX9_deviceOwners rfl (Nat.le_of_ble_eq_true rfl) ⟨Nat.le_of_ble_eq_true rfl, Nat.le_of_ble_eq_true rfl, Nat.le_of_ble_eq_true rfl, Nat.le_of_ble_eq_true rfl⟩ ?_
                  refine zy_top (b := zs (fun p => zb (hasDev (lnB D (x % D 1 0).toNat (y % D 1 0).toNat (z % 5)) p (z % 5))) (D 1 0).toNat) (own_l hl (z % 5)) ?_
                  refine zx_icmp_ne (tgt := 680) (by first | exact hz574 _ _ | assumption | exact zr_b _ | exact zcmp_r _ _ | exact hzD _ _ | exact zr3 (tS_b hW _) | exact zr3 (lsc_b hW _ _) | exact zr3 (sc_b hW _ _) | exact rkP_zr hW _ | exact scA_zr hW _ _ | exact zr3 (cW_b hW) | exact zr3 (wS_b hW) | exact zr3 (wS_b hWn) | (unfold zr at *; omega)) (by first | exact hz574 _ _ | assumption | exact zr_b _ | exact zcmp_r _ _ | exact hzD _ _ | exact zr3 (tS_b hW _) | exact zr3 (lsc_b hW _ _) | exact zr3 (sc_b hW _ _) | exact rkP_zr hW _ | exact scA_zr hW _ _ | exact zr3 (cW_b hW) | exact zr3 (wS_b hW) | exact zr3 (wS_b hWn) | (unfold zr at *; omega)) dL_acts_647 (by decide) (fun h647 => ?_) (fun h647 => ?_)
                  · exfalso
                    first
                    | exact absurd rfl h647
                    | exact hd_a (by omega) hne ((hasDev_l hl (p := (x % D 1 0).toNat) (by show (((x % D 1 0).toNat : Nat) : Int) < D 1 0; omega) (z % 5)).mp h660)
                    | exact h673 ((hasDev_l hl (p := (y % D 1 0).toNat) (by show (((y % D 1 0).toNat : Nat) : Int) < D 1 0; omega) (z % 5)).mpr (hd_b (by omega)))
                    | (rw [zb_t h625] at eO; omega)
                    | (rw [zb_f h625] at eO; omega)
                  · refine zx_aloadN dL_acts_650 rfl rfl ?_
                    refine zx_iload dL_acts_651 rfl ?_
                    refine zx_iload dL_acts_653 rfl ?_
                    refine zx_iconst dL_acts_655 ?_
                    refine zx_irem (by omega) (by omega) (by omega) (by omega) dL_acts_656 ?_
                    refine zy_cv [zi (x % (D 1 0)), zi (z % 5)] (fX9_hasDevice  hfl hz574 rfl hr574.2.2.2.2.2.1 (by first | exact hz574 _ _ | assumption | exact zr_b _ | exact zcmp_r _ _ | exact hzD _ _ | exact zr3 (tS_b hW _) | exact zr3 (lsc_b hW _ _) | exact zr3 (sc_b hW _ _) | exact rkP_zr hW _ | exact scA_zr hW _ _ | exact zr3 (cW_b hW) | exact zr3 (wS_b hW) | exact zr3 (wS_b hWn) | (unfold zr at *; omega)) (by first | exact hz574 _ _ | assumption | exact zr_b _ | exact zcmp_r _ _ | exact hzD _ _ | exact zr3 (tS_b hW _) | exact zr3 (lsc_b hW _ _) | exact zr3 (sc_b hW _ _) | exact rkP_zr hW _ | exact scA_zr hW _ _ | exact zr3 (cW_b hW) | exact zr3 (wS_b hW) | exact zr3 (wS_b hWn) | (unfold zr at *; omega)) (by first | assumption | omega)) dL_acts_657 (by decide) rfl cw_RL_136 okX9_hasDevice rfl (Nat.le_of_ble_eq_true rfl) ⟨Nat.le_of_ble_eq_true rfl, Nat.le_of_ble_eq_true rfl, Nat.le_of_ble_eq_true rfl, Nat.le_of_ble_eq_true rfl⟩ ?_
                    refine zx_if_ne (tgt := 680) (by first | exact hz574 _ _ | assumption | exact zr_b _ | exact zcmp_r _ _ | exact hzD _ _ | exact zr3 (tS_b hW _) | exact zr3 (lsc_b hW _ _) | exact zr3 (sc_b hW _ _) | exact rkP_zr hW _ | exact scA_zr hW _ _ | exact zr3 (cW_b hW) | exact zr3 (wS_b hW) | exact zr3 (wS_b hWn) | (unfold zr at *; omega)) dL_acts_660 (by decide) (fun h660 => ?_) (fun h660 => ?_)
                    · have h660 := zb_n.mp h660
                      exfalso
                      first
                      | exact absurd rfl h647
                      | exact hd_a (by omega) hne ((hasDev_l hl (p := (x % D 1 0).toNat) (by show (((x % D 1 0).toNat : Nat) : Int) < D 1 0; omega) (z % 5)).mp h660)
                      | exact h673 ((hasDev_l hl (p := (y % D 1 0).toNat) (by show (((y % D 1 0).toNat : Nat) : Int) < D 1 0; omega) (z % 5)).mpr (hd_b (by omega)))
                      | (rw [zb_t h625] at eO; omega)
                      | (rw [zb_f h625] at eO; omega)
                    · have h660 := zb_0.mp h660
                      refine zx_aloadN dL_acts_663 rfl rfl ?_
                      refine zx_iload dL_acts_664 rfl ?_
                      refine zx_iload dL_acts_666 rfl ?_
                      refine zx_iconst dL_acts_668 ?_
                      refine zx_irem (by omega) (by omega) (by omega) (by omega) dL_acts_669 ?_
                      refine zy_cv [zi (y % (D 1 0)), zi (z % 5)] (fX9_hasDevice  hfl hz574 rfl hr574.2.2.2.2.2.1 (by first | exact hz574 _ _ | assumption | exact zr_b _ | exact zcmp_r _ _ | exact hzD _ _ | exact zr3 (tS_b hW _) | exact zr3 (lsc_b hW _ _) | exact zr3 (sc_b hW _ _) | exact rkP_zr hW _ | exact scA_zr hW _ _ | exact zr3 (cW_b hW) | exact zr3 (wS_b hW) | exact zr3 (wS_b hWn) | (unfold zr at *; omega)) (by first | exact hz574 _ _ | assumption | exact zr_b _ | exact zcmp_r _ _ | exact hzD _ _ | exact zr3 (tS_b hW _) | exact zr3 (lsc_b hW _ _) | exact zr3 (sc_b hW _ _) | exact rkP_zr hW _ | exact scA_zr hW _ _ | exact zr3 (cW_b hW) | exact zr3 (wS_b hW) | exact zr3 (wS_b hWn) | (unfold zr at *; omega)) (by first | assumption | omega)) dL_acts_670 (by decide) rfl cw_RL_136 okX9_hasDevice rfl (Nat.le_of_ble_eq_true rfl) ⟨Nat.le_of_ble_eq_true rfl, Nat.le_of_ble_eq_true rfl, Nat.le_of_ble_eq_true rfl, Nat.le_of_ble_eq_true rfl⟩ ?_
                      refine zx_if_eq (tgt := 680) (by first | exact hz574 _ _ | assumption | exact zr_b _ | exact zcmp_r _ _ | exact hzD _ _ | exact zr3 (tS_b hW _) | exact zr3 (lsc_b hW _ _) | exact zr3 (sc_b hW _ _) | exact rkP_zr hW _ | exact scA_zr hW _ _ | exact zr3 (cW_b hW) | exact zr3 (wS_b hW) | exact zr3 (wS_b hWn) | (unfold zr at *; omega)) dL_acts_673 (by decide) (fun h673 => ?_) (fun h673 => ?_)
                      · have h673 := zb_0.mp h673
                        exfalso
                        first
                        | exact absurd rfl h647
                        | exact hd_a (by omega) hne ((hasDev_l hl (p := (x % D 1 0).toNat) (by show (((x % D 1 0).toNat : Nat) : Int) < D 1 0; omega) (z % 5)).mp h660)
                        | exact h673 ((hasDev_l hl (p := (y % D 1 0).toNat) (by show (((y % D 1 0).toNat : Nat) : Int) < D 1 0; omega) (z % 5)).mpr (hd_b (by omega)))
                        | (rw [zb_t h625] at eO; omega)
                        | (rw [zb_f h625] at eO; omega)
                      · have h673 := zb_n.mp h673
                        refine zx_iconst dL_acts_676 ?_
                        refine zx_goto (tgt := 681) dL_acts_677 (by decide) ?_
                        refine zx_iret rfl rfl dL_acts_681 ?_
                        rw [hQ]
                        refine ⟨congrArg (fun z : Int => (Sum.inl (some (zi z)) : Option zV ⊕ String)) ?_, ?_⟩
                        · first | rfl | assumption | omega
                        exact AP_e (aB_8 (fun q => q.elim hb574 hb574b)) (AP_d (zSame_rf _ _) hr574 (zSame_rf _ _) hz574)
            · have h601 := zb_0.mp h601
              exfalso; exact hb574b h601
          · exfalso; omega
    refine zx_tableIn (off := 490) (tgt := 512) (by unfold zr; omega) dL_acts_22 (by omega) (by omega) rfl (by decide) ?_
    exact J512
set_option maxRecDepth 20000 in
set_option maxHeartbeats 2000000 in
theorem sL_acts_g {l : Launch} {w : zW} (hfl : l.stackTraces = false) {σ : zS} {D : zBk} {mk x y z : Int} (hz : zOK σ) (hB : bK σ = D) (hW : WF D) (hP1 : 1 ≤ D 1 0) (hN : HN σ) (hA : HBA σ) (hm : D 1 7 = mk) (hmb : 0 ≤ mk ∧ mk ≤ 2) (hx : 0 ≤ x ∧ x ≤ 99999) (hy : 0 ≤ y ∧ y ≤ 99999) (hzz : 0 ≤ z ∧ z ≤ 99999) : Sp l w mL_acts 12 1 [zf 9 0, zi mk, zi 9, zi x, zi y, zi z] σ (zqv (some (zi 1)) (fun τ => AP σ τ D (aB mk 9 x y z D))) := by
  obtain ⟨Q, hQ⟩ : ∃ Q : zQ, Q = (zqv (some (zi 1)) (fun τ => AP σ τ D (aB mk 9 x y z D))) := ⟨_, rfl⟩
  rw [← hQ]
  refine zx_enter hfl (by decide) rfl 8 rfl ?_
  show zX l w mL_acts (zMQ w 12 1 Q) 0 [zf 9 0, zi mk, zi 9, zi x, zi y, zi z, zu, zu, zu, zu, zu, zu, zu, zu] [] 0 σ
  have hzD := hzDof hB hz
  have hn1 : 0 ≤ D 1 0 ∧ D 1 0 ≤ 8 := hW.1.1
  have hn12 : 0 ≤ D 12 0 ∧ D 12 0 ≤ 40 := hW.1.2.2.2
  have hwl : (wP D (Ht D) : Int) < D 1 0 := wP_l hW hP1
  have hwy := wY_b hW hP1
  have hws := wS_b hW
  have q5 : 0 ≤ y % 5 ∧ y % 5 < 5 := by omega
  have q0 : D 12 0 ≠ 0 → 0 ≤ x % D 12 0 := fun q => Int.emod_nonneg _ q
  have q1 : D 12 0 ≠ 0 → x % D 12 0 < D 12 0 := fun q => Int.emod_lt_of_pos _ (by omega)
  have q2 : 0 ≤ x % D 1 0 := Int.emod_nonneg _ (by omega)
  have q3 : x % D 1 0 < D 1 0 := Int.emod_lt_of_pos _ (by omega)
  have q4 : 0 ≤ y % D 1 0 := Int.emod_nonneg _ (by omega)
  have q6 : y % D 1 0 < D 1 0 := Int.emod_lt_of_pos _ (by omega)
  have hob := zsb_le (fun c => opn D c) (D 12 0).toNat
  refine zx_aloadN dL_acts_0 rfl rfl ?_
  refine zy_cv [] (fX9_clueCount  hfl hz hB hW) dL_acts_1 (by decide) rfl cw_RL_98 okX9_clueCount rfl (Nat.le_of_ble_eq_true rfl) ⟨Nat.le_of_ble_eq_true rfl, Nat.le_of_ble_eq_true rfl, Nat.le_of_ble_eq_true rfl, Nat.le_of_ble_eq_true rfl⟩ ?_
  refine zy_istore [zf 9 0, zi mk, zi 9, zi x, zi y, zi z, zi (D 12 0), zu, zu, zu, zu, zu, zu, zu] dL_acts_4 (Nat.le_of_ble_eq_true rfl) (Nat.le_of_ble_eq_true rfl) rfl rfl ?_
  refine zx_iload dL_acts_6 rfl ?_
  refine zx_if_ne (tgt := 15) (by first | exact hz _ _ | assumption | exact zr_b _ | exact zcmp_r _ _ | exact hzD _ _ | exact zr3 (tS_b hW _) | exact zr3 (lsc_b hW _ _) | exact zr3 (sc_b hW _ _) | exact rkP_zr hW _ | exact scA_zr hW _ _ | exact zr3 (cW_b hW) | exact zr3 (wS_b hW) | exact zr3 (wS_b hWn) | (unfold zr at *; omega)) dL_acts_8 (by decide) (fun h8 => ?_) (fun h8 => ?_)
  · refine zx_iloadN dL_acts_15 rfl rfl ?_
    refine zx_iload dL_acts_16 rfl ?_
    refine zx_irem (by omega) (by omega) (by omega) (by omega) dL_acts_18 ?_
    refine zy_istore [zf 9 0, zi mk, zi 9, zi x, zi y, zi z, zi (D 12 0), zi (x % (D 12 0)), zu, zu, zu, zu, zu, zu] dL_acts_19 (Nat.le_of_ble_eq_true rfl) (Nat.le_of_ble_eq_true rfl) rfl rfl ?_
    refine zx_iloadN dL_acts_21 rfl rfl ?_
    have J682 : zX l w mL_acts (zMQ w 12 1 Q) 682 [zf 9 0, zi mk, zi 9, zi x, zi y, zi z, zi (D 12 0), zi (x % (D 12 0)), zu, zu, zu, zu, zu, zu] [] 0 σ := by
      refine zx_aloadN dL_acts_682 rfl rfl ?_
      refine zy_cvR [] (fX9_verdictPrinter  hfl hz hB hW hP1) dL_acts_683 (by decide) rfl cw_RL_174 okX9_verdictPrinter rfl (Nat.le_of_ble_eq_true rfl) ⟨Nat.le_of_ble_eq_true rfl, Nat.le_of_ble_eq_true rfl, Nat.le_of_ble_eq_true rfl, Nat.le_of_ble_eq_true rfl⟩ (fun τ683 hr683 => ?_)
      have hz683 : zOK τ683 := hr683.1
      refine zy_istore [zf 9 0, zi mk, zi 9, zi x, zi y, zi z, zi (D 12 0), zi (x % (D 12 0)), zi ((wP D (Ht D) : Nat) : Int), zu, zu, zu, zu, zu] dL_acts_686 (Nat.le_of_ble_eq_true rfl) (Nat.le_of_ble_eq_true rfl) rfl rfl ?_
      refine zx_aloadN dL_acts_688 rfl rfl ?_
      refine zy_cvR [] (fX9_verdictYear  hfl hz683 hr683.2.2 hW hP1) dL_acts_689 (by decide) rfl cw_RL_177 okX9_verdictYear rfl (Nat.le_of_ble_eq_true rfl) ⟨Nat.le_of_ble_eq_true rfl, Nat.le_of_ble_eq_true rfl, Nat.le_of_ble_eq_true rfl, Nat.le_of_ble_eq_true rfl⟩ (fun τ689 hr689 => ?_)
      have hz689 : zOK τ689 := hr689.1
      refine zy_istore [zf 9 0, zi mk, zi 9, zi x, zi y, zi z, zi (D 12 0), zi (x % (D 12 0)), zi ((wP D (Ht D) : Nat) : Int), zi (wY D (Ht D)), zu, zu, zu, zu] dL_acts_692 (Nat.le_of_ble_eq_true rfl) (Nat.le_of_ble_eq_true rfl) rfl rfl ?_
      refine zx_aloadN dL_acts_694 rfl rfl ?_
      refine zy_cvR [] (fX9_verdictScore  hfl hz689 hr689.2.2 hW hP1) dL_acts_695 (by decide) rfl cw_RL_189 okX9_verdictScore rfl (Nat.le_of_ble_eq_true rfl) ⟨Nat.le_of_ble_eq_true rfl, Nat.le_of_ble_eq_true rfl, Nat.le_of_ble_eq_true rfl, Nat.le_of_ble_eq_true rfl⟩ (fun τ695 hr695 => ?_)
      have hz695 : zOK τ695 := hr695.1
      refine zy_istore [zf 9 0, zi mk, zi 9, zi x, zi y, zi z, zi (D 12 0), zi (x % (D 12 0)), zi ((wP D (Ht D) : Nat) : Int), zi (wY D (Ht D)), zi (wS D (Ht D)), zu, zu, zu] dL_acts_698 (Nat.le_of_ble_eq_true rfl) (Nat.le_of_ble_eq_true rfl) rfl rfl ?_
      refine zx_aloadN dL_acts_700 rfl rfl ?_
      refine zy_cvR [] (fX9_unexplainedCount  hfl hz695 hr695.2.2 hW hP1) dL_acts_701 (by decide) rfl cw_RL_195 okX9_unexplainedCount rfl (Nat.le_of_ble_eq_true rfl) ⟨Nat.le_of_ble_eq_true rfl, Nat.le_of_ble_eq_true rfl, Nat.le_of_ble_eq_true rfl, Nat.le_of_ble_eq_true rfl⟩ (fun τ701 hr701 => ?_)
      have hz701 : zOK τ701 := hr701.1
      refine zy_istore [zf 9 0, zi mk, zi 9, zi x, zi y, zi z, zi (D 12 0), zi (x % (D 12 0)), zi ((wP D (Ht D) : Nat) : Int), zi (wY D (Ht D)), zi (wS D (Ht D)), zi (zs (fun c => zb (opn D c)) (D 12 0).toNat), zu, zu] dL_acts_704 (Nat.le_of_ble_eq_true rfl) (Nat.le_of_ble_eq_true rfl) rfl rfl ?_
      refine zx_aloadN dL_acts_706 rfl rfl ?_
      refine zx_bipush dL_acts_707 rfl ?_
      refine zx_iconst dL_acts_709 ?_
      refine zx_iconst dL_acts_710 ?_
      refine zx_iconst dL_acts_711 ?_
      refine zy_csHR [zf 9 0, zi 8, zi 0, zi 0, zi 0] (sL_does_clear  hfl hz701 hr701.2.2 hW hP1 (HN_j hN (zJ (zJ (zJ (zJ (zSame_rf _ _) hr683.2.1) hr689.2.1) hr695.2.1) hr701.2.1)) (HBA_j hA (zJ (zJ (zJ (zJ (zSame_rf _ _) hr683.2.1) hr689.2.1) hr695.2.1) hr701.2.1))) dL_acts_712 cw_RL_231 okL_does rfl (Nat.le_of_ble_eq_true rfl) ⟨Nat.le_of_ble_eq_true rfl, Nat.le_of_ble_eq_true rfl, Nat.le_of_ble_eq_true rfl, Nat.le_of_ble_eq_true rfl⟩ (fun τ712 hr712 => ?_)
      have hz712 : zOK τ712 := hr712.1
      have hl := hr712.2.2.2.2.2.2
      have hWn := hr712.2.2.2.2.2.1
      have hzDn := hzDof (rfl : bK τ712 = bK τ712) hz712
      have e12 : (bK τ712) 12 0 = D 12 0 := hl.1.2.2.2
      have e1 : (bK τ712) 1 0 = D 1 0 := hl.1.1
      have hP1n : 1 ≤ (bK τ712) 1 0 := by rw [e1]; exact hP1
      have eP : wP (bK τ712) (Ht (bK τ712)) = wP D (Ht D) := (wP_t (lEq_sy hl) hWn).symm.trans (wP_cl hW hP1)
      have eY : wY (bK τ712) (Ht (bK τ712)) = wY D (Ht D) := (wY_t (lEq_sy hl) hWn hP1n).symm.trans (wY_cl hW hP1)
      have eS : wS (bK τ712) (Ht (bK τ712)) = wS D (Ht D) := (wS_t (lEq_sy hl) hWn hP1n).symm.trans (wS_cl hW hP1)
      have eO : zs (fun c => zb (opn (bK τ712) c)) ((bK τ712) 12 0).toNat = 0 := by
        rw [zs_congr (g := fun _ => 0) (fun c hc => zb_f (fun q => opn_cl hW hP1 c ((opn_l (lEq_sy hl) hWn hP1n (by omega)).mpr q))), zs_zero]
      have eW : cW (bK τ712) = wS D (Ht D) := (cW_l2 hl).trans (cW_cl hW hP1)
      refine zx_iload dL_acts_715 rfl ?_
      refine zx_icmp_ne (tgt := 767) (by first | exact hz712 _ _ | assumption | exact zr_b _ | exact zcmp_r _ _ | exact hzD _ _ | exact zr3 (tS_b hW _) | exact zr3 (lsc_b hW _ _) | exact zr3 (sc_b hW _ _) | exact rkP_zr hW _ | exact scA_zr hW _ _ | exact zr3 (cW_b hW) | exact zr3 (wS_b hW) | exact zr3 (wS_b hWn) | (unfold zr at *; omega)) (by first | exact hz712 _ _ | assumption | exact zr_b _ | exact zcmp_r _ _ | exact hzD _ _ | exact zr3 (tS_b hW _) | exact zr3 (lsc_b hW _ _) | exact zr3 (sc_b hW _ _) | exact rkP_zr hW _ | exact scA_zr hW _ _ | exact zr3 (cW_b hW) | exact zr3 (wS_b hW) | exact zr3 (wS_b hWn) | (unfold zr at *; omega)) dL_acts_717 (by decide) (fun h717 => ?_) (fun h717 => ?_)
      · exfalso; first | exact absurd rfl h717 | exact absurd rfl h726 | exact absurd rfl h735 | exact absurd rfl h744 | exact absurd rfl h760 | omega
      · refine zx_aloadN dL_acts_720 rfl rfl ?_
        refine zy_cvR [] (fX9_verdictPrinter  hfl hz712 rfl hr712.2.2.2.2.2.1 hP1n) dL_acts_721 (by decide) rfl cw_RL_174 okX9_verdictPrinter rfl (Nat.le_of_ble_eq_true rfl) ⟨Nat.le_of_ble_eq_true rfl, Nat.le_of_ble_eq_true rfl, Nat.le_of_ble_eq_true rfl, Nat.le_of_ble_eq_true rfl⟩ (fun τ721 hr721 => ?_)
        have hz721 : zOK τ721 := hr721.1
        refine zy_top (b := ((wP D (Ht D) : Nat) : Int)) (by rw [eP]) ?_
        refine zx_iload dL_acts_724 rfl ?_
        refine zx_icmp_ne (tgt := 767) (by first | exact hz721 _ _ | assumption | exact zr_b _ | exact zcmp_r _ _ | exact hzD _ _ | exact zr3 (tS_b hW _) | exact zr3 (lsc_b hW _ _) | exact zr3 (sc_b hW _ _) | exact rkP_zr hW _ | exact scA_zr hW _ _ | exact zr3 (cW_b hW) | exact zr3 (wS_b hW) | exact zr3 (wS_b hWn) | (unfold zr at *; omega)) (by first | exact hz721 _ _ | assumption | exact zr_b _ | exact zcmp_r _ _ | exact hzD _ _ | exact zr3 (tS_b hW _) | exact zr3 (lsc_b hW _ _) | exact zr3 (sc_b hW _ _) | exact rkP_zr hW _ | exact scA_zr hW _ _ | exact zr3 (cW_b hW) | exact zr3 (wS_b hW) | exact zr3 (wS_b hWn) | (unfold zr at *; omega)) dL_acts_726 (by decide) (fun h726 => ?_) (fun h726 => ?_)
        · exfalso; first | exact absurd rfl h717 | exact absurd rfl h726 | exact absurd rfl h735 | exact absurd rfl h744 | exact absurd rfl h760 | omega
        · refine zx_aloadN dL_acts_729 rfl rfl ?_
          refine zy_cvR [] (fX9_verdictYear  hfl hz721 hr721.2.2 hr712.2.2.2.2.2.1 hP1n) dL_acts_730 (by decide) rfl cw_RL_177 okX9_verdictYear rfl (Nat.le_of_ble_eq_true rfl) ⟨Nat.le_of_ble_eq_true rfl, Nat.le_of_ble_eq_true rfl, Nat.le_of_ble_eq_true rfl, Nat.le_of_ble_eq_true rfl⟩ (fun τ730 hr730 => ?_)
          have hz730 : zOK τ730 := hr730.1
          refine zy_top (b := wY D (Ht D)) (eY) ?_
          refine zx_iload dL_acts_733 rfl ?_
          refine zx_icmp_ne (tgt := 767) (by first | exact hz730 _ _ | assumption | exact zr_b _ | exact zcmp_r _ _ | exact hzD _ _ | exact zr3 (tS_b hW _) | exact zr3 (lsc_b hW _ _) | exact zr3 (sc_b hW _ _) | exact rkP_zr hW _ | exact scA_zr hW _ _ | exact zr3 (cW_b hW) | exact zr3 (wS_b hW) | exact zr3 (wS_b hWn) | (unfold zr at *; omega)) (by first | exact hz730 _ _ | assumption | exact zr_b _ | exact zcmp_r _ _ | exact hzD _ _ | exact zr3 (tS_b hW _) | exact zr3 (lsc_b hW _ _) | exact zr3 (sc_b hW _ _) | exact rkP_zr hW _ | exact scA_zr hW _ _ | exact zr3 (cW_b hW) | exact zr3 (wS_b hW) | exact zr3 (wS_b hWn) | (unfold zr at *; omega)) dL_acts_735 (by decide) (fun h735 => ?_) (fun h735 => ?_)
          · exfalso; first | exact absurd rfl h717 | exact absurd rfl h726 | exact absurd rfl h735 | exact absurd rfl h744 | exact absurd rfl h760 | omega
          · refine zx_aloadN dL_acts_738 rfl rfl ?_
            refine zy_cvR [] (fX9_verdictScore  hfl hz730 hr730.2.2 hr712.2.2.2.2.2.1 hP1n) dL_acts_739 (by decide) rfl cw_RL_189 okX9_verdictScore rfl (Nat.le_of_ble_eq_true rfl) ⟨Nat.le_of_ble_eq_true rfl, Nat.le_of_ble_eq_true rfl, Nat.le_of_ble_eq_true rfl, Nat.le_of_ble_eq_true rfl⟩ (fun τ739 hr739 => ?_)
            have hz739 : zOK τ739 := hr739.1
            refine zy_top (b := wS D (Ht D)) (eS) ?_
            refine zx_iload dL_acts_742 rfl ?_
            refine zx_icmp_ne (tgt := 767) (by first | exact hz739 _ _ | assumption | exact zr_b _ | exact zcmp_r _ _ | exact hzD _ _ | exact zr3 (tS_b hW _) | exact zr3 (lsc_b hW _ _) | exact zr3 (sc_b hW _ _) | exact rkP_zr hW _ | exact scA_zr hW _ _ | exact zr3 (cW_b hW) | exact zr3 (wS_b hW) | exact zr3 (wS_b hWn) | (unfold zr at *; omega)) (by first | exact hz739 _ _ | assumption | exact zr_b _ | exact zcmp_r _ _ | exact hzD _ _ | exact zr3 (tS_b hW _) | exact zr3 (lsc_b hW _ _) | exact zr3 (sc_b hW _ _) | exact rkP_zr hW _ | exact scA_zr hW _ _ | exact zr3 (cW_b hW) | exact zr3 (wS_b hW) | exact zr3 (wS_b hWn) | (unfold zr at *; omega)) dL_acts_744 (by decide) (fun h744 => ?_) (fun h744 => ?_)
            · exfalso; first | exact absurd rfl h717 | exact absurd rfl h726 | exact absurd rfl h735 | exact absurd rfl h744 | exact absurd rfl h760 | omega
            · refine zx_aloadN dL_acts_747 rfl rfl ?_
              refine zy_cvR [] (fX9_unexplainedCount  hfl hz739 hr739.2.2 hr712.2.2.2.2.2.1 hP1n) dL_acts_748 (by decide) rfl cw_RL_195 okX9_unexplainedCount rfl (Nat.le_of_ble_eq_true rfl) ⟨Nat.le_of_ble_eq_true rfl, Nat.le_of_ble_eq_true rfl, Nat.le_of_ble_eq_true rfl, Nat.le_of_ble_eq_true rfl⟩ (fun τ748 hr748 => ?_)
              have hz748 : zOK τ748 := hr748.1
              refine zy_top (b := 0) (eO) ?_
              refine zx_if_ne (tgt := 767) (by unfold zr; omega) dL_acts_751 (by decide) (fun h751 => ?_) (fun h751 => ?_)
              · exact absurd h751 (by decide)
              · refine zx_aloadN dL_acts_754 rfl rfl ?_
                refine zy_cv [] (fX9_countingWeight  hfl hz748 hr748.2.2 hr712.2.2.2.2.2.1) dL_acts_755 (by decide) rfl cw_RL_101 okX9_countingWeight rfl (Nat.le_of_ble_eq_true rfl) ⟨Nat.le_of_ble_eq_true rfl, Nat.le_of_ble_eq_true rfl, Nat.le_of_ble_eq_true rfl, Nat.le_of_ble_eq_true rfl⟩ ?_
                refine zy_top (b := wS D (Ht D)) (eW) ?_
                refine zx_iload dL_acts_758 rfl ?_
                refine zx_icmp_ne (tgt := 767) (by first | exact hz748 _ _ | assumption | exact zr_b _ | exact zcmp_r _ _ | exact hzD _ _ | exact zr3 (tS_b hW _) | exact zr3 (lsc_b hW _ _) | exact zr3 (sc_b hW _ _) | exact rkP_zr hW _ | exact scA_zr hW _ _ | exact zr3 (cW_b hW) | exact zr3 (wS_b hW) | exact zr3 (wS_b hWn) | (unfold zr at *; omega)) (by first | exact hz748 _ _ | assumption | exact zr_b _ | exact zcmp_r _ _ | exact hzD _ _ | exact zr3 (tS_b hW _) | exact zr3 (lsc_b hW _ _) | exact zr3 (sc_b hW _ _) | exact rkP_zr hW _ | exact scA_zr hW _ _ | exact zr3 (cW_b hW) | exact zr3 (wS_b hW) | exact zr3 (wS_b hWn) | (unfold zr at *; omega)) dL_acts_760 (by decide) (fun h760 => ?_) (fun h760 => ?_)
                · exfalso; first | exact absurd rfl h717 | exact absurd rfl h726 | exact absurd rfl h735 | exact absurd rfl h744 | exact absurd rfl h760 | omega
                · refine zx_iconst dL_acts_763 ?_
                  refine zx_goto (tgt := 768) dL_acts_764 (by decide) ?_
                  refine zx_iret rfl rfl dL_acts_768 ?_
                  rw [hQ]
                  refine ⟨congrArg (fun z : Int => (Sum.inl (some (zi z)) : Option zV ⊕ String)) ?_, ?_⟩
                  · first | rfl | assumption | omega
                  exact AP_e (aB_9) (AP_d (zJ (zJ (zJ (zJ (zSame_rf _ _) hr683.2.1) hr689.2.1) hr695.2.1) hr701.2.1) hr712 (zJ (zJ (zJ (zJ (zSame_rf _ _) hr721.2.1) hr730.2.1) hr739.2.1) hr748.2.1) hz748)
    refine zx_tableOut (tgt := 682) (by unfold zr; omega) dL_acts_22 (by omega) (by decide) ?_
    exact J682
  · refine zx_iconst dL_acts_11 ?_
    refine zx_goto (tgt := 19) dL_acts_12 (by decide) ?_
    refine zy_istore [zf 9 0, zi mk, zi 9, zi x, zi y, zi z, zi (D 12 0), zi 0, zu, zu, zu, zu, zu, zu] dL_acts_19 (Nat.le_of_ble_eq_true rfl) (Nat.le_of_ble_eq_true rfl) rfl rfl ?_
    refine zx_iloadN dL_acts_21 rfl rfl ?_
    have J682 : zX l w mL_acts (zMQ w 12 1 Q) 682 [zf 9 0, zi mk, zi 9, zi x, zi y, zi z, zi (D 12 0), zi 0, zu, zu, zu, zu, zu, zu] [] 0 σ := by
      refine zx_aloadN dL_acts_682 rfl rfl ?_
      refine zy_cvR [] (fX9_verdictPrinter  hfl hz hB hW hP1) dL_acts_683 (by decide) rfl cw_RL_174 okX9_verdictPrinter rfl (Nat.le_of_ble_eq_true rfl) ⟨Nat.le_of_ble_eq_true rfl, Nat.le_of_ble_eq_true rfl, Nat.le_of_ble_eq_true rfl, Nat.le_of_ble_eq_true rfl⟩ (fun τ683 hr683 => ?_)
      have hz683 : zOK τ683 := hr683.1
      refine zy_istore [zf 9 0, zi mk, zi 9, zi x, zi y, zi z, zi (D 12 0), zi 0, zi ((wP D (Ht D) : Nat) : Int), zu, zu, zu, zu, zu] dL_acts_686 (Nat.le_of_ble_eq_true rfl) (Nat.le_of_ble_eq_true rfl) rfl rfl ?_
      refine zx_aloadN dL_acts_688 rfl rfl ?_
      refine zy_cvR [] (fX9_verdictYear  hfl hz683 hr683.2.2 hW hP1) dL_acts_689 (by decide) rfl cw_RL_177 okX9_verdictYear rfl (Nat.le_of_ble_eq_true rfl) ⟨Nat.le_of_ble_eq_true rfl, Nat.le_of_ble_eq_true rfl, Nat.le_of_ble_eq_true rfl, Nat.le_of_ble_eq_true rfl⟩ (fun τ689 hr689 => ?_)
      have hz689 : zOK τ689 := hr689.1
      refine zy_istore [zf 9 0, zi mk, zi 9, zi x, zi y, zi z, zi (D 12 0), zi 0, zi ((wP D (Ht D) : Nat) : Int), zi (wY D (Ht D)), zu, zu, zu, zu] dL_acts_692 (Nat.le_of_ble_eq_true rfl) (Nat.le_of_ble_eq_true rfl) rfl rfl ?_
      refine zx_aloadN dL_acts_694 rfl rfl ?_
      refine zy_cvR [] (fX9_verdictScore  hfl hz689 hr689.2.2 hW hP1) dL_acts_695 (by decide) rfl cw_RL_189 okX9_verdictScore rfl (Nat.le_of_ble_eq_true rfl) ⟨Nat.le_of_ble_eq_true rfl, Nat.le_of_ble_eq_true rfl, Nat.le_of_ble_eq_true rfl, Nat.le_of_ble_eq_true rfl⟩ (fun τ695 hr695 => ?_)
      have hz695 : zOK τ695 := hr695.1
      refine zy_istore [zf 9 0, zi mk, zi 9, zi x, zi y, zi z, zi (D 12 0), zi 0, zi ((wP D (Ht D) : Nat) : Int), zi (wY D (Ht D)), zi (wS D (Ht D)), zu, zu, zu] dL_acts_698 (Nat.le_of_ble_eq_true rfl) (Nat.le_of_ble_eq_true rfl) rfl rfl ?_
      refine zx_aloadN dL_acts_700 rfl rfl ?_
      refine zy_cvR [] (fX9_unexplainedCount  hfl hz695 hr695.2.2 hW hP1) dL_acts_701 (by decide) rfl cw_RL_195 okX9_unexplainedCount rfl (Nat.le_of_ble_eq_true rfl) ⟨Nat.le_of_ble_eq_true rfl, Nat.le_of_ble_eq_true rfl, Nat.le_of_ble_eq_true rfl, Nat.le_of_ble_eq_true rfl⟩ (fun τ701 hr701 => ?_)
      have hz701 : zOK τ701 := hr701.1
      refine zy_istore [zf 9 0, zi mk, zi 9, zi x, zi y, zi z, zi (D 12 0), zi 0, zi ((wP D (Ht D) : Nat) : Int), zi (wY D (Ht D)), zi (wS D (Ht D)), zi (zs (fun c => zb (opn D c)) (D 12 0).toNat), zu, zu] dL_acts_704 (Nat.le_of_ble_eq_true rfl) (Nat.le_of_ble_eq_true rfl) rfl rfl ?_
      refine zx_aloadN dL_acts_706 rfl rfl ?_
      refine zx_bipush dL_acts_707 rfl ?_
      refine zx_iconst dL_acts_709 ?_
      refine zx_iconst dL_acts_710 ?_
      refine zx_iconst dL_acts_711 ?_
      refine zy_csHR [zf 9 0, zi 8, zi 0, zi 0, zi 0] (sL_does_clear  hfl hz701 hr701.2.2 hW hP1 (HN_j hN (zJ (zJ (zJ (zJ (zSame_rf _ _) hr683.2.1) hr689.2.1) hr695.2.1) hr701.2.1)) (HBA_j hA (zJ (zJ (zJ (zJ (zSame_rf _ _) hr683.2.1) hr689.2.1) hr695.2.1) hr701.2.1))) dL_acts_712 cw_RL_231 okL_does rfl (Nat.le_of_ble_eq_true rfl) ⟨Nat.le_of_ble_eq_true rfl, Nat.le_of_ble_eq_true rfl, Nat.le_of_ble_eq_true rfl, Nat.le_of_ble_eq_true rfl⟩ (fun τ712 hr712 => ?_)
      have hz712 : zOK τ712 := hr712.1
      have hl := hr712.2.2.2.2.2.2
      have hWn := hr712.2.2.2.2.2.1
      have hzDn := hzDof (rfl : bK τ712 = bK τ712) hz712
      have e12 : (bK τ712) 12 0 = D 12 0 := hl.1.2.2.2
      have e1 : (bK τ712) 1 0 = D 1 0 := hl.1.1
      have hP1n : 1 ≤ (bK τ712) 1 0 := by rw [e1]; exact hP1
      have eP : wP (bK τ712) (Ht (bK τ712)) = wP D (Ht D) := (wP_t (lEq_sy hl) hWn).symm.trans (wP_cl hW hP1)
      have eY : wY (bK τ712) (Ht (bK τ712)) = wY D (Ht D) := (wY_t (lEq_sy hl) hWn hP1n).symm.trans (wY_cl hW hP1)
      have eS : wS (bK τ712) (Ht (bK τ712)) = wS D (Ht D) := (wS_t (lEq_sy hl) hWn hP1n).symm.trans (wS_cl hW hP1)
      have eO : zs (fun c => zb (opn (bK τ712) c)) ((bK τ712) 12 0).toNat = 0 := by
        rw [zs_congr (g := fun _ => 0) (fun c hc => zb_f (fun q => opn_cl hW hP1 c ((opn_l (lEq_sy hl) hWn hP1n (by omega)).mpr q))), zs_zero]
      have eW : cW (bK τ712) = wS D (Ht D) := (cW_l2 hl).trans (cW_cl hW hP1)
      refine zx_iload dL_acts_715 rfl ?_
      refine zx_icmp_ne (tgt := 767) (by first | exact hz712 _ _ | assumption | exact zr_b _ | exact zcmp_r _ _ | exact hzD _ _ | exact zr3 (tS_b hW _) | exact zr3 (lsc_b hW _ _) | exact zr3 (sc_b hW _ _) | exact rkP_zr hW _ | exact scA_zr hW _ _ | exact zr3 (cW_b hW) | exact zr3 (wS_b hW) | exact zr3 (wS_b hWn) | (unfold zr at *; omega)) (by first | exact hz712 _ _ | assumption | exact zr_b _ | exact zcmp_r _ _ | exact hzD _ _ | exact zr3 (tS_b hW _) | exact zr3 (lsc_b hW _ _) | exact zr3 (sc_b hW _ _) | exact rkP_zr hW _ | exact scA_zr hW _ _ | exact zr3 (cW_b hW) | exact zr3 (wS_b hW) | exact zr3 (wS_b hWn) | (unfold zr at *; omega)) dL_acts_717 (by decide) (fun h717 => ?_) (fun h717 => ?_)
      · exfalso; first | exact absurd rfl h717 | exact absurd rfl h726 | exact absurd rfl h735 | exact absurd rfl h744 | exact absurd rfl h760 | omega
      · refine zx_aloadN dL_acts_720 rfl rfl ?_
        refine zy_cvR [] (fX9_verdictPrinter  hfl hz712 rfl hr712.2.2.2.2.2.1 hP1n) dL_acts_721 (by decide) rfl cw_RL_174 okX9_verdictPrinter rfl (Nat.le_of_ble_eq_true rfl) ⟨Nat.le_of_ble_eq_true rfl, Nat.le_of_ble_eq_true rfl, Nat.le_of_ble_eq_true rfl, Nat.le_of_ble_eq_true rfl⟩ (fun τ721 hr721 => ?_)
        have hz721 : zOK τ721 := hr721.1
        refine zy_top (b := ((wP D (Ht D) : Nat) : Int)) (by rw [eP]) ?_
        refine zx_iload dL_acts_724 rfl ?_
        refine zx_icmp_ne (tgt := 767) (by first | exact hz721 _ _ | assumption | exact zr_b _ | exact zcmp_r _ _ | exact hzD _ _ | exact zr3 (tS_b hW _) | exact zr3 (lsc_b hW _ _) | exact zr3 (sc_b hW _ _) | exact rkP_zr hW _ | exact scA_zr hW _ _ | exact zr3 (cW_b hW) | exact zr3 (wS_b hW) | exact zr3 (wS_b hWn) | (unfold zr at *; omega)) (by first | exact hz721 _ _ | assumption | exact zr_b _ | exact zcmp_r _ _ | exact hzD _ _ | exact zr3 (tS_b hW _) | exact zr3 (lsc_b hW _ _) | exact zr3 (sc_b hW _ _) | exact rkP_zr hW _ | exact scA_zr hW _ _ | exact zr3 (cW_b hW) | exact zr3 (wS_b hW) | exact zr3 (wS_b hWn) | (unfold zr at *; omega)) dL_acts_726 (by decide) (fun h726 => ?_) (fun h726 => ?_)
        · exfalso; first | exact absurd rfl h717 | exact absurd rfl h726 | exact absurd rfl h735 | exact absurd rfl h744 | exact absurd rfl h760 | omega
        · refine zx_aloadN dL_acts_729 rfl rfl ?_
          refine zy_cvR [] (fX9_verdictYear  hfl hz721 hr721.2.2 hr712.2.2.2.2.2.1 hP1n) dL_acts_730 (by decide) rfl cw_RL_177 okX9_verdictYear rfl (Nat.le_of_ble_eq_true rfl) ⟨Nat.le_of_ble_eq_true rfl, Nat.le_of_ble_eq_true rfl, Nat.le_of_ble_eq_true rfl, Nat.le_of_ble_eq_true rfl⟩ (fun τ730 hr730 => ?_)
          have hz730 : zOK τ730 := hr730.1
          refine zy_top (b := wY D (Ht D)) (eY) ?_
          refine zx_iload dL_acts_733 rfl ?_
          refine zx_icmp_ne (tgt := 767) (by first | exact hz730 _ _ | assumption | exact zr_b _ | exact zcmp_r _ _ | exact hzD _ _ | exact zr3 (tS_b hW _) | exact zr3 (lsc_b hW _ _) | exact zr3 (sc_b hW _ _) | exact rkP_zr hW _ | exact scA_zr hW _ _ | exact zr3 (cW_b hW) | exact zr3 (wS_b hW) | exact zr3 (wS_b hWn) | (unfold zr at *; omega)) (by first | exact hz730 _ _ | assumption | exact zr_b _ | exact zcmp_r _ _ | exact hzD _ _ | exact zr3 (tS_b hW _) | exact zr3 (lsc_b hW _ _) | exact zr3 (sc_b hW _ _) | exact rkP_zr hW _ | exact scA_zr hW _ _ | exact zr3 (cW_b hW) | exact zr3 (wS_b hW) | exact zr3 (wS_b hWn) | (unfold zr at *; omega)) dL_acts_735 (by decide) (fun h735 => ?_) (fun h735 => ?_)
          · exfalso; first | exact absurd rfl h717 | exact absurd rfl h726 | exact absurd rfl h735 | exact absurd rfl h744 | exact absurd rfl h760 | omega
          · refine zx_aloadN dL_acts_738 rfl rfl ?_
            refine zy_cvR [] (fX9_verdictScore  hfl hz730 hr730.2.2 hr712.2.2.2.2.2.1 hP1n) dL_acts_739 (by decide) rfl cw_RL_189 okX9_verdictScore rfl (Nat.le_of_ble_eq_true rfl) ⟨Nat.le_of_ble_eq_true rfl, Nat.le_of_ble_eq_true rfl, Nat.le_of_ble_eq_true rfl, Nat.le_of_ble_eq_true rfl⟩ (fun τ739 hr739 => ?_)
            have hz739 : zOK τ739 := hr739.1
            refine zy_top (b := wS D (Ht D)) (eS) ?_
            refine zx_iload dL_acts_742 rfl ?_
            refine zx_icmp_ne (tgt := 767) (by first | exact hz739 _ _ | assumption | exact zr_b _ | exact zcmp_r _ _ | exact hzD _ _ | exact zr3 (tS_b hW _) | exact zr3 (lsc_b hW _ _) | exact zr3 (sc_b hW _ _) | exact rkP_zr hW _ | exact scA_zr hW _ _ | exact zr3 (cW_b hW) | exact zr3 (wS_b hW) | exact zr3 (wS_b hWn) | (unfold zr at *; omega)) (by first | exact hz739 _ _ | assumption | exact zr_b _ | exact zcmp_r _ _ | exact hzD _ _ | exact zr3 (tS_b hW _) | exact zr3 (lsc_b hW _ _) | exact zr3 (sc_b hW _ _) | exact rkP_zr hW _ | exact scA_zr hW _ _ | exact zr3 (cW_b hW) | exact zr3 (wS_b hW) | exact zr3 (wS_b hWn) | (unfold zr at *; omega)) dL_acts_744 (by decide) (fun h744 => ?_) (fun h744 => ?_)
            · exfalso; first | exact absurd rfl h717 | exact absurd rfl h726 | exact absurd rfl h735 | exact absurd rfl h744 | exact absurd rfl h760 | omega
            · refine zx_aloadN dL_acts_747 rfl rfl ?_
              refine zy_cvR [] (fX9_unexplainedCount  hfl hz739 hr739.2.2 hr712.2.2.2.2.2.1 hP1n) dL_acts_748 (by decide) rfl cw_RL_195 okX9_unexplainedCount rfl (Nat.le_of_ble_eq_true rfl) ⟨Nat.le_of_ble_eq_true rfl, Nat.le_of_ble_eq_true rfl, Nat.le_of_ble_eq_true rfl, Nat.le_of_ble_eq_true rfl⟩ (fun τ748 hr748 => ?_)
              have hz748 : zOK τ748 := hr748.1
              refine zy_top (b := 0) (eO) ?_
              refine zx_if_ne (tgt := 767) (by unfold zr; omega) dL_acts_751 (by decide) (fun h751 => ?_) (fun h751 => ?_)
              · exact absurd h751 (by decide)
              · refine zx_aloadN dL_acts_754 rfl rfl ?_
                refine zy_cv [] (fX9_countingWeight  hfl hz748 hr748.2.2 hr712.2.2.2.2.2.1) dL_acts_755 (by decide) rfl cw_RL_101 okX9_countingWeight rfl (Nat.le_of_ble_eq_true rfl) ⟨Nat.le_of_ble_eq_true rfl, Nat.le_of_ble_eq_true rfl, Nat.le_of_ble_eq_true rfl, Nat.le_of_ble_eq_true rfl⟩ ?_
                refine zy_top (b := wS D (Ht D)) (eW) ?_
                refine zx_iload dL_acts_758 rfl ?_
                refine zx_icmp_ne (tgt := 767) (by first | exact hz748 _ _ | assumption | exact zr_b _ | exact zcmp_r _ _ | exact hzD _ _ | exact zr3 (tS_b hW _) | exact zr3 (lsc_b hW _ _) | exact zr3 (sc_b hW _ _) | exact rkP_zr hW _ | exact scA_zr hW _ _ | exact zr3 (cW_b hW) | exact zr3 (wS_b hW) | exact zr3 (wS_b hWn) | (unfold zr at *; omega)) (by first | exact hz748 _ _ | assumption | exact zr_b _ | exact zcmp_r _ _ | exact hzD _ _ | exact zr3 (tS_b hW _) | exact zr3 (lsc_b hW _ _) | exact zr3 (sc_b hW _ _) | exact rkP_zr hW _ | exact scA_zr hW _ _ | exact zr3 (cW_b hW) | exact zr3 (wS_b hW) | exact zr3 (wS_b hWn) | (unfold zr at *; omega)) dL_acts_760 (by decide) (fun h760 => ?_) (fun h760 => ?_)
                · exfalso; first | exact absurd rfl h717 | exact absurd rfl h726 | exact absurd rfl h735 | exact absurd rfl h744 | exact absurd rfl h760 | omega
                · refine zx_iconst dL_acts_763 ?_
                  refine zx_goto (tgt := 768) dL_acts_764 (by decide) ?_
                  refine zx_iret rfl rfl dL_acts_768 ?_
                  rw [hQ]
                  refine ⟨congrArg (fun z : Int => (Sum.inl (some (zi z)) : Option zV ⊕ String)) ?_, ?_⟩
                  · first | rfl | assumption | omega
                  exact AP_e (aB_9) (AP_d (zJ (zJ (zJ (zJ (zSame_rf _ _) hr683.2.1) hr689.2.1) hr695.2.1) hr701.2.1) hr712 (zJ (zJ (zJ (zJ (zSame_rf _ _) hr721.2.1) hr730.2.1) hr739.2.1) hr748.2.1) hz748)
    refine zx_tableOut (tgt := 682) (by unfold zr; omega) dL_acts_22 (by omega) (by decide) ?_
    exact J682

theorem sL_acts {l : Launch} {w : zW} (hfl : l.stackTraces = false) {σ : zS} {D : zBk} {mk u x y z : Int} (hz : zOK σ) (hB : bK σ = D) (hW : WF D) (hP1 : 1 ≤ D 1 0) (hN : HN σ) (hA : HBA σ) (hm : D 1 7 = mk) (hmb : 0 ≤ mk ∧ mk ≤ 2) (hu : 0 ≤ u ∧ u ≤ 9) (hx : 0 ≤ x ∧ x ≤ 99999) (hy : 0 ≤ y ∧ y ≤ 99999) (hzz : 0 ≤ z ∧ z ≤ 99999) : Sp l w mL_acts 12 1 [zf 9 0, zi mk, zi u, zi x, zi y, zi z] σ (zqv (some (zi 1)) (fun τ => AP σ τ D (aB mk u x y z D))) := by
  rcases (by omega : (0 ≤ u ∧ u ≤ 2) ∨ (3 ≤ u ∧ u ≤ 4) ∨ (5 ≤ u ∧ u ≤ 6) ∨ u = 7 ∨ u = 8 ∨ u = 9) with h | h | h | rfl | rfl | rfl
  · exact sL_acts_a hfl hz hB hW hP1 hN hA h hm hmb hx hy hzz
  · exact sL_acts_b hfl hz hB hW hP1 hN hA h hm hmb hx hy hzz
  · rcases (by omega : y % 2 = 0 ∨ y % 2 = 1) with q | q
    · exact sL_acts_c hfl hz hB hW hP1 hN hA h q hm hmb hx hy hzz
    · exact sL_acts_d hfl hz hB hW hP1 hN hA h q hm hmb hx hy hzz
  · exact sL_acts_e hfl hz hB hW hP1 hN hA hm hmb hx hy hzz
  · exact sL_acts_f hfl hz hB hW hP1 hN hA hm hmb hx hy hzz
  · exact sL_acts_g hfl hz hB hW hP1 hN hA hm hmb hx hy hzz

