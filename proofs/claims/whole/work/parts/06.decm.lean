theorem dX7_init_0 : decode cX7_init 0 = .ok (.aload_n 0, 1) := by decide +kernel
theorem dX7_init_1 : decode cX7_init 1 = .ok (.invokespecial 1, 3) := by decide +kernel
theorem dX7_init_4 : decode cX7_init 4 = .ok (.aload_n 0, 1) := by decide +kernel
theorem dX7_init_5 : decode cX7_init 5 = .ok (.bipush 36, 2) := by decide +kernel
theorem dX7_init_7 : decode cX7_init 7 = .ok (.newarray .int, 2) := by decide +kernel
theorem dX7_init_9 : decode cX7_init 9 = .ok (.putfield 7, 3) := by decide +kernel
theorem dX7_init_12 : decode cX7_init 12 = .ok (.aload_n 0, 1) := by decide +kernel
theorem dX7_init_13 : decode cX7_init 13 = .ok (.bipush 40, 2) := by decide +kernel
theorem dX7_init_15 : decode cX7_init 15 = .ok (.newarray .int, 2) := by decide +kernel
theorem dX7_init_17 : decode cX7_init 17 = .ok (.putfield 13, 3) := by decide +kernel
theorem dX7_init_20 : decode cX7_init 20 = .ok (.aload_n 0, 1) := by decide +kernel
theorem dX7_init_21 : decode cX7_init 21 = .ok (.bipush 40, 2) := by decide +kernel
theorem dX7_init_23 : decode cX7_init 23 = .ok (.newarray .int, 2) := by decide +kernel
theorem dX7_init_25 : decode cX7_init 25 = .ok (.putfield 16, 3) := by decide +kernel
theorem dX7_init_28 : decode cX7_init 28 = .ok (.aload_n 0, 1) := by decide +kernel
theorem dX7_init_29 : decode cX7_init 29 = .ok (.bipush 40, 2) := by decide +kernel
theorem dX7_init_31 : decode cX7_init 31 = .ok (.newarray .int, 2) := by decide +kernel
theorem dX7_init_33 : decode cX7_init 33 = .ok (.putfield 19, 3) := by decide +kernel
theorem dX7_init_36 : decode cX7_init 36 = .ok (.aload_n 0, 1) := by decide +kernel
theorem dX7_init_37 : decode cX7_init 37 = .ok (.bipush 40, 2) := by decide +kernel
theorem dX7_init_39 : decode cX7_init 39 = .ok (.newarray .boolean, 2) := by decide +kernel
theorem dX7_init_41 : decode cX7_init 41 = .ok (.putfield 22, 3) := by decide +kernel
theorem dX7_init_44 : decode cX7_init 44 = .ok (.aload_n 0, 1) := by decide +kernel
theorem dX7_init_45 : decode cX7_init 45 = .ok (.bipush 40, 2) := by decide +kernel
theorem dX7_init_47 : decode cX7_init 47 = .ok (.newarray .int, 2) := by decide +kernel
theorem dX7_init_49 : decode cX7_init 49 = .ok (.putfield 26, 3) := by decide +kernel
theorem dX7_init_52 : decode cX7_init 52 = .ok (.aload_n 0, 1) := by decide +kernel
theorem dX7_init_53 : decode cX7_init 53 = .ok (.bipush 40, 2) := by decide +kernel
theorem dX7_init_55 : decode cX7_init 55 = .ok (.newarray .int, 2) := by decide +kernel
theorem dX7_init_57 : decode cX7_init 57 = .ok (.putfield 29, 3) := by decide +kernel
theorem dX7_init_60 : decode cX7_init 60 = .ok (.aload_n 0, 1) := by decide +kernel
theorem dX7_init_61 : decode cX7_init 61 = .ok (.sipush 1200, 3) := by decide +kernel
theorem dX7_init_64 : decode cX7_init 64 = .ok (.newarray .int, 2) := by decide +kernel
theorem dX7_init_66 : decode cX7_init 66 = .ok (.putfield 32, 3) := by decide +kernel
theorem dX7_init_69 : decode cX7_init 69 = .ok (.aload_n 0, 1) := by decide +kernel
theorem dX7_init_70 : decode cX7_init 70 = .ok (.sipush 1200, 3) := by decide +kernel
theorem dX7_init_73 : decode cX7_init 73 = .ok (.newarray .int, 2) := by decide +kernel
theorem dX7_init_75 : decode cX7_init 75 = .ok (.putfield 35, 3) := by decide +kernel
theorem dX7_init_78 : decode cX7_init 78 = .ok (.aload_n 0, 1) := by decide +kernel
theorem dX7_init_79 : decode cX7_init 79 = .ok (.sipush 1200, 3) := by decide +kernel
theorem dX7_init_82 : decode cX7_init 82 = .ok (.newarray .int, 2) := by decide +kernel
theorem dX7_init_84 : decode cX7_init 84 = .ok (.putfield 38, 3) := by decide +kernel
theorem dX7_init_87 : decode cX7_init 87 = .ok (.aload_n 0, 1) := by decide +kernel
theorem dX7_init_88 : decode cX7_init 88 = .ok (.bipush 40, 2) := by decide +kernel
theorem dX7_init_90 : decode cX7_init 90 = .ok (.newarray .int, 2) := by decide +kernel
theorem dX7_init_92 : decode cX7_init 92 = .ok (.putfield 41, 3) := by decide +kernel
theorem dX7_init_95 : decode cX7_init 95 = .ok (.aload_n 0, 1) := by decide +kernel
theorem dX7_init_96 : decode cX7_init 96 = .ok (.sipush 400, 3) := by decide +kernel
theorem dX7_init_99 : decode cX7_init 99 = .ok (.newarray .int, 2) := by decide +kernel
theorem dX7_init_101 : decode cX7_init 101 = .ok (.putfield 44, 3) := by decide +kernel
theorem dX7_init_104 : decode cX7_init 104 = .ok (.aload_n 0, 1) := by decide +kernel
theorem dX7_init_105 : decode cX7_init 105 = .ok (.sipush 400, 3) := by decide +kernel
theorem dX7_init_108 : decode cX7_init 108 = .ok (.newarray .int, 2) := by decide +kernel
theorem dX7_init_110 : decode cX7_init 110 = .ok (.putfield 47, 3) := by decide +kernel
theorem dX7_init_113 : decode cX7_init 113 = .ok (.aload_n 0, 1) := by decide +kernel
theorem dX7_init_114 : decode cX7_init 114 = .ok (.bipush 40, 2) := by decide +kernel
theorem dX7_init_116 : decode cX7_init 116 = .ok (.newarray .int, 2) := by decide +kernel
theorem dX7_init_118 : decode cX7_init 118 = .ok (.putfield 50, 3) := by decide +kernel
theorem dX7_init_121 : decode cX7_init 121 = .ok (.aload_n 0, 1) := by decide +kernel
theorem dX7_init_122 : decode cX7_init 122 = .ok (.iconst 5, 1) := by decide +kernel
theorem dX7_init_123 : decode cX7_init 123 = .ok (.putfield 53, 3) := by decide +kernel
theorem dX7_init_126 : decode cX7_init 126 = .ok (.aload_n 0, 1) := by decide +kernel
theorem dX7_init_127 : decode cX7_init 127 = .ok (.bipush 18, 2) := by decide +kernel
theorem dX7_init_129 : decode cX7_init 129 = .ok (.newarray .int, 2) := by decide +kernel
theorem dX7_init_131 : decode cX7_init 131 = .ok (.putfield 57, 3) := by decide +kernel
theorem dX7_init_134 : decode cX7_init 134 = .ok (.aload_n 0, 1) := by decide +kernel
theorem dX7_init_135 : decode cX7_init 135 = .ok (.bipush 18, 2) := by decide +kernel
theorem dX7_init_137 : decode cX7_init 137 = .ok (.newarray .int, 2) := by decide +kernel
theorem dX7_init_139 : decode cX7_init 139 = .ok (.putfield 60, 3) := by decide +kernel
theorem dX7_init_142 : decode cX7_init 142 = .ok (.aload_n 0, 1) := by decide +kernel
theorem dX7_init_143 : decode cX7_init 143 = .ok (.bipush 18, 2) := by decide +kernel
theorem dX7_init_145 : decode cX7_init 145 = .ok (.newarray .int, 2) := by decide +kernel
theorem dX7_init_147 : decode cX7_init 147 = .ok (.putfield 63, 3) := by decide +kernel
theorem dX7_init_150 : decode cX7_init 150 = .ok (.aload_n 0, 1) := by decide +kernel
theorem dX7_init_151 : decode cX7_init 151 = .ok (.sipush 480, 3) := by decide +kernel
theorem dX7_init_154 : decode cX7_init 154 = .ok (.newarray .int, 2) := by decide +kernel
theorem dX7_init_156 : decode cX7_init 156 = .ok (.putfield 66, 3) := by decide +kernel
theorem dX7_init_159 : decode cX7_init 159 = .ok (.aload_n 0, 1) := by decide +kernel
theorem dX7_init_160 : decode cX7_init 160 = .ok (.sipush 480, 3) := by decide +kernel
theorem dX7_init_163 : decode cX7_init 163 = .ok (.newarray .int, 2) := by decide +kernel
theorem dX7_init_165 : decode cX7_init 165 = .ok (.putfield 69, 3) := by decide +kernel
theorem dX7_init_168 : decode cX7_init 168 = .ok (.aload_n 0, 1) := by decide +kernel
theorem dX7_init_169 : decode cX7_init 169 = .ok (.bipush 40, 2) := by decide +kernel
theorem dX7_init_171 : decode cX7_init 171 = .ok (.newarray .int, 2) := by decide +kernel
theorem dX7_init_173 : decode cX7_init 173 = .ok (.putfield 72, 3) := by decide +kernel
theorem dX7_init_176 : decode cX7_init 176 = .ok (.aload_n 0, 1) := by decide +kernel
theorem dX7_init_177 : decode cX7_init 177 = .ok (.iconst 5, 1) := by decide +kernel
theorem dX7_init_178 : decode cX7_init 178 = .ok (.newarray .int, 2) := by decide +kernel
theorem dX7_init_180 : decode cX7_init 180 = .ok (.putfield 75, 3) := by decide +kernel
theorem dX7_init_183 : decode cX7_init 183 = .ok (.aload_n 0, 1) := by decide +kernel
theorem dX7_init_184 : decode cX7_init 184 = .ok (.sipush 500, 3) := by decide +kernel
theorem dX7_init_187 : decode cX7_init 187 = .ok (.putfield 78, 3) := by decide +kernel
theorem dX7_init_190 : decode cX7_init 190 = .ok (.aload_n 0, 1) := by decide +kernel
theorem dX7_init_191 : decode cX7_init 191 = .ok (.bipush 20, 2) := by decide +kernel
theorem dX7_init_193 : decode cX7_init 193 = .ok (.newarray .int, 2) := by decide +kernel
theorem dX7_init_195 : decode cX7_init 195 = .ok (.putfield 81, 3) := by decide +kernel
theorem dX7_init_198 : decode cX7_init 198 = .ok (.aload_n 0, 1) := by decide +kernel
theorem dX7_init_199 : decode cX7_init 199 = .ok (.bipush 20, 2) := by decide +kernel
theorem dX7_init_201 : decode cX7_init 201 = .ok (.newarray .int, 2) := by decide +kernel
theorem dX7_init_203 : decode cX7_init 203 = .ok (.putfield 84, 3) := by decide +kernel
theorem dX7_init_206 : decode cX7_init 206 = .ok (.aload_n 0, 1) := by decide +kernel
theorem dX7_init_207 : decode cX7_init 207 = .ok (.bipush 20, 2) := by decide +kernel
theorem dX7_init_209 : decode cX7_init 209 = .ok (.newarray .int, 2) := by decide +kernel
theorem dX7_init_211 : decode cX7_init 211 = .ok (.putfield 87, 3) := by decide +kernel
theorem dX7_init_214 : decode cX7_init 214 = .ok (.aload_n 0, 1) := by decide +kernel
theorem dX7_init_215 : decode cX7_init 215 = .ok (.bipush 20, 2) := by decide +kernel
theorem dX7_init_217 : decode cX7_init 217 = .ok (.newarray .boolean, 2) := by decide +kernel
theorem dX7_init_219 : decode cX7_init 219 = .ok (.putfield 90, 3) := by decide +kernel
theorem dX7_init_222 : decode cX7_init 222 = .ok (.aload_n 0, 1) := by decide +kernel
theorem dX7_init_223 : decode cX7_init 223 = .ok (.iconst 5, 1) := by decide +kernel
theorem dX7_init_224 : decode cX7_init 224 = .ok (.newarray .int, 2) := by decide +kernel
theorem dX7_init_226 : decode cX7_init 226 = .ok (.putfield 93, 3) := by decide +kernel
theorem dX7_init_229 : decode cX7_init 229 = .ok (.aload_n 0, 1) := by decide +kernel
theorem dX7_init_230 : decode cX7_init 230 = .ok (.bipush 40, 2) := by decide +kernel
theorem dX7_init_232 : decode cX7_init 232 = .ok (.newarray .int, 2) := by decide +kernel
theorem dX7_init_234 : decode cX7_init 234 = .ok (.putfield 96, 3) := by decide +kernel
theorem dX7_init_237 : decode cX7_init 237 = .ok (.aload_n 0, 1) := by decide +kernel
theorem dX7_init_238 : decode cX7_init 238 = .ok (.bipush 40, 2) := by decide +kernel
theorem dX7_init_240 : decode cX7_init 240 = .ok (.newarray .int, 2) := by decide +kernel
theorem dX7_init_242 : decode cX7_init 242 = .ok (.putfield 99, 3) := by decide +kernel
theorem dX7_init_245 : decode cX7_init 245 = .ok (.aload_n 0, 1) := by decide +kernel
theorem dX7_init_246 : decode cX7_init 246 = .ok (.iconst 5, 1) := by decide +kernel
theorem dX7_init_247 : decode cX7_init 247 = .ok (.newarray .int, 2) := by decide +kernel
theorem dX7_init_249 : decode cX7_init 249 = .ok (.putfield 102, 3) := by decide +kernel
theorem dX7_init_252 : decode cX7_init 252 = .ok (.aload_n 0, 1) := by decide +kernel
theorem dX7_init_253 : decode cX7_init 253 = .ok (.bipush 32, 2) := by decide +kernel
theorem dX7_init_255 : decode cX7_init 255 = .ok (.newarray .int, 2) := by decide +kernel
theorem dX7_init_257 : decode cX7_init 257 = .ok (.putfield 105, 3) := by decide +kernel
theorem dX7_init_260 : decode cX7_init 260 = .ok (.iconst 0, 1) := by decide +kernel
theorem dX7_init_261 : decode cX7_init 261 = .ok (.istore_n 1, 1) := by decide +kernel
theorem dX7_init_262 : decode cX7_init 262 = .ok (.iload_n 1, 1) := by decide +kernel
theorem dX7_init_263 : decode cX7_init 263 = .ok (.bipush 36, 2) := by decide +kernel
theorem dX7_init_265 : decode cX7_init 265 = .ok (.if_icmp .ge 32, 3) := by decide +kernel
theorem dX7_init_268 : decode cX7_init 268 = .ok (.aload_n 0, 1) := by decide +kernel
theorem dX7_init_269 : decode cX7_init 269 = .ok (.getfield 7, 3) := by decide +kernel
theorem dX7_init_272 : decode cX7_init 272 = .ok (.iload_n 1, 1) := by decide +kernel
theorem dX7_init_273 : decode cX7_init 273 = .ok (.iload_n 1, 1) := by decide +kernel
theorem dX7_init_274 : decode cX7_init 274 = .ok (.bipush 6, 2) := by decide +kernel
theorem dX7_init_276 : decode cX7_init 276 = .ok (.idiv, 1) := by decide +kernel
theorem dX7_init_277 : decode cX7_init 277 = .ok (.iload_n 1, 1) := by decide +kernel
theorem dX7_init_278 : decode cX7_init 278 = .ok (.bipush 6, 2) := by decide +kernel
theorem dX7_init_280 : decode cX7_init 280 = .ok (.irem, 1) := by decide +kernel
theorem dX7_init_281 : decode cX7_init 281 = .ok (.if_icmp .ne 7, 3) := by decide +kernel
theorem dX7_init_284 : decode cX7_init 284 = .ok (.iconst 0, 1) := by decide +kernel
theorem dX7_init_285 : decode cX7_init 285 = .ok (.goto 5, 3) := by decide +kernel
theorem dX7_init_288 : decode cX7_init 288 = .ok (.bipush 100, 2) := by decide +kernel
theorem dX7_init_290 : decode cX7_init 290 = .ok (.iastore, 1) := by decide +kernel
theorem dX7_init_291 : decode cX7_init 291 = .ok (.iinc 1 1, 3) := by decide +kernel
theorem dX7_init_294 : decode cX7_init 294 = .ok (.goto (-32), 3) := by decide +kernel
theorem dX7_init_297 : decode cX7_init 297 = .ok (.iconst 0, 1) := by decide +kernel
theorem dX7_init_298 : decode cX7_init 298 = .ok (.istore_n 1, 1) := by decide +kernel
theorem dX7_init_299 : decode cX7_init 299 = .ok (.iload_n 1, 1) := by decide +kernel
theorem dX7_init_300 : decode cX7_init 300 = .ok (.bipush 18, 2) := by decide +kernel
theorem dX7_init_302 : decode cX7_init 302 = .ok (.if_icmp .ge 16, 3) := by decide +kernel
theorem dX7_init_305 : decode cX7_init 305 = .ok (.aload_n 0, 1) := by decide +kernel
theorem dX7_init_306 : decode cX7_init 306 = .ok (.getfield 57, 3) := by decide +kernel
theorem dX7_init_309 : decode cX7_init 309 = .ok (.iload_n 1, 1) := by decide +kernel
theorem dX7_init_310 : decode cX7_init 310 = .ok (.iconst 2, 1) := by decide +kernel
theorem dX7_init_311 : decode cX7_init 311 = .ok (.iastore, 1) := by decide +kernel
theorem dX7_init_312 : decode cX7_init 312 = .ok (.iinc 1 1, 3) := by decide +kernel
theorem dX7_init_315 : decode cX7_init 315 = .ok (.goto (-16), 3) := by decide +kernel
theorem dX7_init_318 : decode cX7_init 318 = .ok (.iconst 0, 1) := by decide +kernel
theorem dX7_init_319 : decode cX7_init 319 = .ok (.istore_n 1, 1) := by decide +kernel
theorem dX7_init_320 : decode cX7_init 320 = .ok (.iload_n 1, 1) := by decide +kernel
theorem dX7_init_321 : decode cX7_init 321 = .ok (.iconst 5, 1) := by decide +kernel
theorem dX7_init_322 : decode cX7_init 322 = .ok (.if_icmp .ge 16, 3) := by decide +kernel
theorem dX7_init_325 : decode cX7_init 325 = .ok (.aload_n 0, 1) := by decide +kernel
theorem dX7_init_326 : decode cX7_init 326 = .ok (.getfield 75, 3) := by decide +kernel
theorem dX7_init_329 : decode cX7_init 329 = .ok (.iload_n 1, 1) := by decide +kernel
theorem dX7_init_330 : decode cX7_init 330 = .ok (.iconst 3, 1) := by decide +kernel
theorem dX7_init_331 : decode cX7_init 331 = .ok (.iastore, 1) := by decide +kernel
theorem dX7_init_332 : decode cX7_init 332 = .ok (.iinc 1 1, 3) := by decide +kernel
theorem dX7_init_335 : decode cX7_init 335 = .ok (.goto (-15), 3) := by decide +kernel
theorem dX7_init_338 : decode cX7_init 338 = .ok (.return_, 1) := by decide +kernel
theorem dX7_thrown_0 : decode cX7_thrown 0 = .ok (.aload_n 0, 1) := by decide +kernel
theorem dX7_thrown_1 : decode cX7_thrown 1 = .ok (.getfield 108, 3) := by decide +kernel
theorem dX7_thrown_4 : decode cX7_thrown 4 = .ok (.ireturn, 1) := by decide +kernel
theorem dX7_holds_0 : decode cX7_holds 0 = .ok (.aload_n 0, 1) := by decide +kernel
theorem dX7_holds_1 : decode cX7_holds 1 = .ok (.iload_n 1, 1) := by decide +kernel
theorem dX7_holds_2 : decode cX7_holds 2 = .ok (.putfield 108, 3) := by decide +kernel
theorem dX7_holds_5 : decode cX7_holds 5 = .ok (.iload_n 1, 1) := by decide +kernel
theorem dX7_holds_6 : decode cX7_holds 6 = .ok (.ifCond .ne 7, 3) := by decide +kernel
theorem dX7_holds_9 : decode cX7_holds 9 = .ok (.iconst 1, 1) := by decide +kernel
theorem dX7_holds_10 : decode cX7_holds 10 = .ok (.goto 4, 3) := by decide +kernel
theorem dX7_holds_13 : decode cX7_holds 13 = .ok (.iconst 0, 1) := by decide +kernel
theorem dX7_holds_14 : decode cX7_holds 14 = .ok (.ireturn, 1) := by decide +kernel
theorem dX7_isIn_0 : decode cX7_isIn 0 = .ok (.iload_n 0, 1) := by decide +kernel
theorem dX7_isIn_1 : decode cX7_isIn 1 = .ok (.iload_n 1, 1) := by decide +kernel
theorem dX7_isIn_2 : decode cX7_isIn 2 = .ok (.if_icmp .lt 12, 3) := by decide +kernel
theorem dX7_isIn_5 : decode cX7_isIn 5 = .ok (.iload_n 0, 1) := by decide +kernel
theorem dX7_isIn_6 : decode cX7_isIn 6 = .ok (.iload_n 2, 1) := by decide +kernel
theorem dX7_isIn_7 : decode cX7_isIn 7 = .ok (.if_icmp .gt 7, 3) := by decide +kernel
theorem dX7_isIn_10 : decode cX7_isIn 10 = .ok (.iconst 1, 1) := by decide +kernel
theorem dX7_isIn_11 : decode cX7_isIn 11 = .ok (.goto 4, 3) := by decide +kernel
theorem dX7_isIn_14 : decode cX7_isIn 14 = .ok (.iconst 0, 1) := by decide +kernel
theorem dX7_isIn_15 : decode cX7_isIn 15 = .ok (.ireturn, 1) := by decide +kernel
theorem dX7_isPort_0 : decode cX7_isPort 0 = .ok (.iload_n 0, 1) := by decide +kernel
theorem dX7_isPort_1 : decode cX7_isPort 1 = .ok (.iconst 0, 1) := by decide +kernel
theorem dX7_isPort_2 : decode cX7_isPort 2 = .ok (.iconst 5, 1) := by decide +kernel
theorem dX7_isPort_3 : decode cX7_isPort 3 = .ok (.invokestatic 111, 3) := by decide +kernel
theorem dX7_isPort_6 : decode cX7_isPort 6 = .ok (.ireturn, 1) := by decide +kernel
theorem dX7_isKind_0 : decode cX7_isKind 0 = .ok (.iload_n 0, 1) := by decide +kernel
theorem dX7_isKind_1 : decode cX7_isKind 1 = .ok (.iconst 0, 1) := by decide +kernel
theorem dX7_isKind_2 : decode cX7_isKind 2 = .ok (.iconst 2, 1) := by decide +kernel
theorem dX7_isKind_3 : decode cX7_isKind 3 = .ok (.invokestatic 111, 3) := by decide +kernel
theorem dX7_isKind_6 : decode cX7_isKind 6 = .ok (.ireturn, 1) := by decide +kernel
theorem dX7_isDay_0 : decode cX7_isDay 0 = .ok (.iload_n 0, 1) := by decide +kernel
theorem dX7_isDay_1 : decode cX7_isDay 1 = .ok (.iconst 0, 1) := by decide +kernel
theorem dX7_isDay_2 : decode cX7_isDay 2 = .ok (.sipush 9999, 3) := by decide +kernel
theorem dX7_isDay_5 : decode cX7_isDay 5 = .ok (.invokestatic 111, 3) := by decide +kernel
theorem dX7_isDay_8 : decode cX7_isDay 8 = .ok (.ireturn, 1) := by decide +kernel
theorem dX7_isBox_0 : decode cX7_isBox 0 = .ok (.iload_n 1, 1) := by decide +kernel
theorem dX7_isBox_1 : decode cX7_isBox 1 = .ok (.iconst 0, 1) := by decide +kernel
theorem dX7_isBox_2 : decode cX7_isBox 2 = .ok (.aload_n 0, 1) := by decide +kernel
theorem dX7_isBox_3 : decode cX7_isBox 3 = .ok (.getfield 115, 3) := by decide +kernel
theorem dX7_isBox_6 : decode cX7_isBox 6 = .ok (.iconst 1, 1) := by decide +kernel
theorem dX7_isBox_7 : decode cX7_isBox 7 = .ok (.isub, 1) := by decide +kernel
theorem dX7_isBox_8 : decode cX7_isBox 8 = .ok (.invokestatic 111, 3) := by decide +kernel
theorem dX7_isBox_11 : decode cX7_isBox 11 = .ok (.ireturn, 1) := by decide +kernel
theorem dX7_isGone_0 : decode cX7_isGone 0 = .ok (.aload_n 0, 1) := by decide +kernel
theorem dX7_isGone_1 : decode cX7_isGone 1 = .ok (.getfield 26, 3) := by decide +kernel
theorem dX7_isGone_4 : decode cX7_isGone 4 = .ok (.iload_n 1, 1) := by decide +kernel
theorem dX7_isGone_5 : decode cX7_isGone 5 = .ok (.iaload, 1) := by decide +kernel
theorem dX7_isGone_6 : decode cX7_isGone 6 = .ok (.iconst (-1), 1) := by decide +kernel
theorem dX7_isGone_7 : decode cX7_isGone 7 = .ok (.if_icmp .eq 7, 3) := by decide +kernel
theorem dX7_isGone_10 : decode cX7_isGone 10 = .ok (.iconst 1, 1) := by decide +kernel
theorem dX7_isGone_11 : decode cX7_isGone 11 = .ok (.goto 4, 3) := by decide +kernel
theorem dX7_isGone_14 : decode cX7_isGone 14 = .ok (.iconst 0, 1) := by decide +kernel
theorem dX7_isGone_15 : decode cX7_isGone 15 = .ok (.ireturn, 1) := by decide +kernel
theorem dX7_cost_0 : decode cX7_cost 0 = .ok (.iload_n 1, 1) := by decide +kernel
theorem dX7_cost_1 : decode cX7_cost 1 = .ok (.invokestatic 118, 3) := by decide +kernel
theorem dX7_cost_4 : decode cX7_cost 4 = .ok (.ifCond .eq 14, 3) := by decide +kernel
theorem dX7_cost_7 : decode cX7_cost 7 = .ok (.iload_n 2, 1) := by decide +kernel
theorem dX7_cost_8 : decode cX7_cost 8 = .ok (.invokestatic 118, 3) := by decide +kernel
theorem dX7_cost_11 : decode cX7_cost 11 = .ok (.ifCond .eq 7, 3) := by decide +kernel
theorem dX7_cost_14 : decode cX7_cost 14 = .ok (.iconst 1, 1) := by decide +kernel
theorem dX7_cost_15 : decode cX7_cost 15 = .ok (.goto 4, 3) := by decide +kernel
theorem dX7_cost_18 : decode cX7_cost 18 = .ok (.iconst 0, 1) := by decide +kernel
theorem dX7_cost_19 : decode cX7_cost 19 = .ok (.istore 4, 2) := by decide +kernel
theorem dX7_cost_21 : decode cX7_cost 21 = .ok (.aload_n 0, 1) := by decide +kernel
theorem dX7_cost_22 : decode cX7_cost 22 = .ok (.iload 4, 2) := by decide +kernel
theorem dX7_cost_24 : decode cX7_cost 24 = .ok (.ifCond .ne 7, 3) := by decide +kernel
theorem dX7_cost_27 : decode cX7_cost 27 = .ok (.iconst 1, 1) := by decide +kernel
theorem dX7_cost_28 : decode cX7_cost 28 = .ok (.goto 20, 3) := by decide +kernel
theorem dX7_cost_31 : decode cX7_cost 31 = .ok (.iload_n 1, 1) := by decide +kernel
theorem dX7_cost_32 : decode cX7_cost 32 = .ok (.iload_n 2, 1) := by decide +kernel
theorem dX7_cost_33 : decode cX7_cost 33 = .ok (.if_icmp .eq 10, 3) := by decide +kernel
theorem dX7_cost_36 : decode cX7_cost 36 = .ok (.iload_n 3, 1) := by decide +kernel
theorem dX7_cost_37 : decode cX7_cost 37 = .ok (.invokestatic 122, 3) := by decide +kernel
theorem dX7_cost_40 : decode cX7_cost 40 = .ok (.ifCond .ne 7, 3) := by decide +kernel
theorem dX7_cost_43 : decode cX7_cost 43 = .ok (.iconst 2, 1) := by decide +kernel
theorem dX7_cost_44 : decode cX7_cost 44 = .ok (.goto 4, 3) := by decide +kernel
theorem dX7_cost_47 : decode cX7_cost 47 = .ok (.iconst 0, 1) := by decide +kernel
theorem dX7_cost_48 : decode cX7_cost 48 = .ok (.invokevirtual 125, 3) := by decide +kernel
theorem dX7_cost_51 : decode cX7_cost 51 = .ok (.ifCond .ne 5, 3) := by decide +kernel
theorem dX7_cost_54 : decode cX7_cost 54 = .ok (.iconst 0, 1) := by decide +kernel
theorem dX7_cost_55 : decode cX7_cost 55 = .ok (.ireturn, 1) := by decide +kernel
theorem dX7_cost_56 : decode cX7_cost 56 = .ok (.aload_n 0, 1) := by decide +kernel
theorem dX7_cost_57 : decode cX7_cost 57 = .ok (.getfield 7, 3) := by decide +kernel
theorem dX7_cost_60 : decode cX7_cost 60 = .ok (.bipush 6, 2) := by decide +kernel
theorem dX7_cost_62 : decode cX7_cost 62 = .ok (.iload_n 1, 1) := by decide +kernel
theorem dX7_cost_63 : decode cX7_cost 63 = .ok (.imul, 1) := by decide +kernel
theorem dX7_cost_64 : decode cX7_cost 64 = .ok (.iload_n 2, 1) := by decide +kernel
theorem dX7_cost_65 : decode cX7_cost 65 = .ok (.iadd, 1) := by decide +kernel
theorem dX7_cost_66 : decode cX7_cost 66 = .ok (.iaload, 1) := by decide +kernel
theorem dX7_cost_67 : decode cX7_cost 67 = .ok (.istore 5, 2) := by decide +kernel
theorem dX7_cost_69 : decode cX7_cost 69 = .ok (.aload_n 0, 1) := by decide +kernel
theorem dX7_cost_70 : decode cX7_cost 70 = .ok (.getfield 7, 3) := by decide +kernel
theorem dX7_cost_73 : decode cX7_cost 73 = .ok (.bipush 6, 2) := by decide +kernel
theorem dX7_cost_75 : decode cX7_cost 75 = .ok (.iload_n 1, 1) := by decide +kernel
theorem dX7_cost_76 : decode cX7_cost 76 = .ok (.imul, 1) := by decide +kernel
theorem dX7_cost_77 : decode cX7_cost 77 = .ok (.iload_n 2, 1) := by decide +kernel
theorem dX7_cost_78 : decode cX7_cost 78 = .ok (.iadd, 1) := by decide +kernel
theorem dX7_cost_79 : decode cX7_cost 79 = .ok (.iload_n 3, 1) := by decide +kernel
theorem dX7_cost_80 : decode cX7_cost 80 = .ok (.iastore, 1) := by decide +kernel
theorem dX7_cost_81 : decode cX7_cost 81 = .ok (.iload 5, 2) := by decide +kernel
theorem dX7_cost_83 : decode cX7_cost 83 = .ok (.ireturn, 1) := by decide +kernel
theorem dX7_box_0 : decode cX7_box 0 = .ok (.iload_n 2, 1) := by decide +kernel
theorem dX7_box_1 : decode cX7_box 1 = .ok (.iconst (-1), 1) := by decide +kernel
theorem dX7_box_2 : decode cX7_box 2 = .ok (.iconst 2, 1) := by decide +kernel
theorem dX7_box_3 : decode cX7_box 3 = .ok (.invokestatic 111, 3) := by decide +kernel
theorem dX7_box_6 : decode cX7_box 6 = .ok (.istore 4, 2) := by decide +kernel
theorem dX7_box_8 : decode cX7_box 8 = .ok (.aload_n 0, 1) := by decide +kernel
theorem dX7_box_9 : decode cX7_box 9 = .ok (.iload 4, 2) := by decide +kernel
theorem dX7_box_11 : decode cX7_box 11 = .ok (.ifCond .ne 7, 3) := by decide +kernel
theorem dX7_box_14 : decode cX7_box 14 = .ok (.iconst 1, 1) := by decide +kernel
theorem dX7_box_15 : decode cX7_box 15 = .ok (.goto 35, 3) := by decide +kernel
theorem dX7_box_18 : decode cX7_box 18 = .ok (.iload_n 1, 1) := by decide +kernel
theorem dX7_box_19 : decode cX7_box 19 = .ok (.invokestatic 128, 3) := by decide +kernel
theorem dX7_box_22 : decode cX7_box 22 = .ok (.ifCond .eq 10, 3) := by decide +kernel
theorem dX7_box_25 : decode cX7_box 25 = .ok (.iload_n 3, 1) := by decide +kernel
theorem dX7_box_26 : decode cX7_box 26 = .ok (.invokestatic 122, 3) := by decide +kernel
theorem dX7_box_29 : decode cX7_box 29 = .ok (.ifCond .ne 7, 3) := by decide +kernel
theorem dX7_box_32 : decode cX7_box 32 = .ok (.iconst 2, 1) := by decide +kernel
theorem dX7_box_33 : decode cX7_box 33 = .ok (.goto 17, 3) := by decide +kernel
theorem dX7_box_36 : decode cX7_box 36 = .ok (.aload_n 0, 1) := by decide +kernel
theorem dX7_box_37 : decode cX7_box 37 = .ok (.getfield 115, 3) := by decide +kernel
theorem dX7_box_40 : decode cX7_box 40 = .ok (.bipush 40, 2) := by decide +kernel
theorem dX7_box_42 : decode cX7_box 42 = .ok (.if_icmp .ne 7, 3) := by decide +kernel
theorem dX7_box_45 : decode cX7_box 45 = .ok (.iconst 3, 1) := by decide +kernel
theorem dX7_box_46 : decode cX7_box 46 = .ok (.goto 4, 3) := by decide +kernel
theorem dX7_box_49 : decode cX7_box 49 = .ok (.iconst 0, 1) := by decide +kernel
theorem dX7_box_50 : decode cX7_box 50 = .ok (.invokevirtual 125, 3) := by decide +kernel
theorem dX7_box_53 : decode cX7_box 53 = .ok (.ifCond .ne 5, 3) := by decide +kernel
theorem dX7_box_56 : decode cX7_box 56 = .ok (.iconst 0, 1) := by decide +kernel
theorem dX7_box_57 : decode cX7_box 57 = .ok (.ireturn, 1) := by decide +kernel
theorem dX7_box_58 : decode cX7_box 58 = .ok (.aload_n 0, 1) := by decide +kernel
theorem dX7_box_59 : decode cX7_box 59 = .ok (.getfield 13, 3) := by decide +kernel
theorem dX7_box_62 : decode cX7_box 62 = .ok (.aload_n 0, 1) := by decide +kernel
theorem dX7_box_63 : decode cX7_box 63 = .ok (.getfield 115, 3) := by decide +kernel
theorem dX7_box_66 : decode cX7_box 66 = .ok (.iload_n 1, 1) := by decide +kernel
theorem dX7_box_67 : decode cX7_box 67 = .ok (.iastore, 1) := by decide +kernel
theorem dX7_box_68 : decode cX7_box 68 = .ok (.aload_n 0, 1) := by decide +kernel
theorem dX7_box_69 : decode cX7_box 69 = .ok (.getfield 16, 3) := by decide +kernel
theorem dX7_box_72 : decode cX7_box 72 = .ok (.aload_n 0, 1) := by decide +kernel
theorem dX7_box_73 : decode cX7_box 73 = .ok (.getfield 115, 3) := by decide +kernel
theorem dX7_box_76 : decode cX7_box 76 = .ok (.iload_n 2, 1) := by decide +kernel
theorem dX7_box_77 : decode cX7_box 77 = .ok (.iastore, 1) := by decide +kernel
theorem dX7_box_78 : decode cX7_box 78 = .ok (.aload_n 0, 1) := by decide +kernel
theorem dX7_box_79 : decode cX7_box 79 = .ok (.getfield 19, 3) := by decide +kernel
theorem dX7_box_82 : decode cX7_box 82 = .ok (.aload_n 0, 1) := by decide +kernel
theorem dX7_box_83 : decode cX7_box 83 = .ok (.getfield 115, 3) := by decide +kernel
theorem dX7_box_86 : decode cX7_box 86 = .ok (.iload_n 3, 1) := by decide +kernel
theorem dX7_box_87 : decode cX7_box 87 = .ok (.iastore, 1) := by decide +kernel
theorem dX7_box_88 : decode cX7_box 88 = .ok (.aload_n 0, 1) := by decide +kernel
theorem dX7_box_89 : decode cX7_box 89 = .ok (.getfield 26, 3) := by decide +kernel
theorem dX7_box_92 : decode cX7_box 92 = .ok (.aload_n 0, 1) := by decide +kernel
theorem dX7_box_93 : decode cX7_box 93 = .ok (.getfield 115, 3) := by decide +kernel
theorem dX7_box_96 : decode cX7_box 96 = .ok (.iconst (-1), 1) := by decide +kernel
theorem dX7_box_97 : decode cX7_box 97 = .ok (.iastore, 1) := by decide +kernel
theorem dX7_box_98 : decode cX7_box 98 = .ok (.aload_n 0, 1) := by decide +kernel
theorem dX7_box_99 : decode cX7_box 99 = .ok (.getfield 29, 3) := by decide +kernel
theorem dX7_box_102 : decode cX7_box 102 = .ok (.aload_n 0, 1) := by decide +kernel
theorem dX7_box_103 : decode cX7_box 103 = .ok (.getfield 115, 3) := by decide +kernel
theorem dX7_box_106 : decode cX7_box 106 = .ok (.iconst (-1), 1) := by decide +kernel
theorem dX7_box_107 : decode cX7_box 107 = .ok (.iastore, 1) := by decide +kernel
theorem dX7_box_108 : decode cX7_box 108 = .ok (.aload_n 0, 1) := by decide +kernel
theorem dX7_box_109 : decode cX7_box 109 = .ok (.dup, 1) := by decide +kernel
theorem dX7_box_110 : decode cX7_box 110 = .ok (.getfield 115, 3) := by decide +kernel
theorem dX7_box_113 : decode cX7_box 113 = .ok (.iconst 1, 1) := by decide +kernel
theorem dX7_box_114 : decode cX7_box 114 = .ok (.iadd, 1) := by decide +kernel
theorem dX7_box_115 : decode cX7_box 115 = .ok (.putfield 115, 3) := by decide +kernel
theorem dX7_box_118 : decode cX7_box 118 = .ok (.aload_n 0, 1) := by decide +kernel
theorem dX7_box_119 : decode cX7_box 119 = .ok (.getfield 115, 3) := by decide +kernel
theorem dX7_box_122 : decode cX7_box 122 = .ok (.iconst 1, 1) := by decide +kernel
theorem dX7_box_123 : decode cX7_box 123 = .ok (.isub, 1) := by decide +kernel
theorem dX7_box_124 : decode cX7_box 124 = .ok (.ireturn, 1) := by decide +kernel
theorem dX7_wash_0 : decode cX7_wash 0 = .ok (.aload_n 0, 1) := by decide +kernel
theorem dX7_wash_1 : decode cX7_wash 1 = .ok (.iload_n 1, 1) := by decide +kernel
theorem dX7_wash_2 : decode cX7_wash 2 = .ok (.invokevirtual 131, 3) := by decide +kernel
theorem dX7_wash_5 : decode cX7_wash 5 = .ok (.istore_n 3, 1) := by decide +kernel
theorem dX7_wash_6 : decode cX7_wash 6 = .ok (.aload_n 0, 1) := by decide +kernel
theorem dX7_wash_7 : decode cX7_wash 7 = .ok (.iload_n 3, 1) := by decide +kernel
theorem dX7_wash_8 : decode cX7_wash 8 = .ok (.ifCond .ne 7, 3) := by decide +kernel
theorem dX7_wash_11 : decode cX7_wash 11 = .ok (.iconst 1, 1) := by decide +kernel
theorem dX7_wash_12 : decode cX7_wash 12 = .ok (.goto 27, 3) := by decide +kernel
theorem dX7_wash_15 : decode cX7_wash 15 = .ok (.iload_n 2, 1) := by decide +kernel
theorem dX7_wash_16 : decode cX7_wash 16 = .ok (.invokestatic 122, 3) := by decide +kernel
theorem dX7_wash_19 : decode cX7_wash 19 = .ok (.ifCond .ne 7, 3) := by decide +kernel
theorem dX7_wash_22 : decode cX7_wash 22 = .ok (.iconst 2, 1) := by decide +kernel
theorem dX7_wash_23 : decode cX7_wash 23 = .ok (.goto 16, 3) := by decide +kernel
theorem dX7_wash_26 : decode cX7_wash 26 = .ok (.aload_n 0, 1) := by decide +kernel
theorem dX7_wash_27 : decode cX7_wash 27 = .ok (.iload_n 1, 1) := by decide +kernel
theorem dX7_wash_28 : decode cX7_wash 28 = .ok (.invokevirtual 134, 3) := by decide +kernel
theorem dX7_wash_31 : decode cX7_wash 31 = .ok (.ifCond .eq 7, 3) := by decide +kernel
theorem dX7_wash_34 : decode cX7_wash 34 = .ok (.iconst 3, 1) := by decide +kernel
theorem dX7_wash_35 : decode cX7_wash 35 = .ok (.goto 4, 3) := by decide +kernel
theorem dX7_wash_38 : decode cX7_wash 38 = .ok (.iconst 0, 1) := by decide +kernel
theorem dX7_wash_39 : decode cX7_wash 39 = .ok (.invokevirtual 125, 3) := by decide +kernel
theorem dX7_wash_42 : decode cX7_wash 42 = .ok (.ifCond .ne 5, 3) := by decide +kernel
theorem dX7_wash_45 : decode cX7_wash 45 = .ok (.iconst 0, 1) := by decide +kernel
theorem dX7_wash_46 : decode cX7_wash 46 = .ok (.ireturn, 1) := by decide +kernel
theorem dX7_wash_47 : decode cX7_wash 47 = .ok (.aload_n 0, 1) := by decide +kernel
theorem dX7_wash_48 : decode cX7_wash 48 = .ok (.getfield 22, 3) := by decide +kernel
theorem dX7_wash_51 : decode cX7_wash 51 = .ok (.iload_n 1, 1) := by decide +kernel
theorem dX7_wash_52 : decode cX7_wash 52 = .ok (.baload, 1) := by decide +kernel
theorem dX7_wash_53 : decode cX7_wash 53 = .ok (.istore 4, 2) := by decide +kernel
theorem dX7_wash_55 : decode cX7_wash 55 = .ok (.aload_n 0, 1) := by decide +kernel
theorem dX7_wash_56 : decode cX7_wash 56 = .ok (.getfield 22, 3) := by decide +kernel
theorem dX7_wash_59 : decode cX7_wash 59 = .ok (.iload_n 1, 1) := by decide +kernel
theorem dX7_wash_60 : decode cX7_wash 60 = .ok (.iconst 0, 1) := by decide +kernel
theorem dX7_wash_61 : decode cX7_wash 61 = .ok (.bastore, 1) := by decide +kernel
theorem dX7_wash_62 : decode cX7_wash 62 = .ok (.aload_n 0, 1) := by decide +kernel
theorem dX7_wash_63 : decode cX7_wash 63 = .ok (.getfield 19, 3) := by decide +kernel
theorem dX7_wash_66 : decode cX7_wash 66 = .ok (.iload_n 1, 1) := by decide +kernel
theorem dX7_wash_67 : decode cX7_wash 67 = .ok (.iload_n 2, 1) := by decide +kernel
theorem dX7_wash_68 : decode cX7_wash 68 = .ok (.iastore, 1) := by decide +kernel
theorem dX7_wash_69 : decode cX7_wash 69 = .ok (.iload 4, 2) := by decide +kernel
theorem dX7_wash_71 : decode cX7_wash 71 = .ok (.ireturn, 1) := by decide +kernel
theorem dX7_fits_0 : decode cX7_fits 0 = .ok (.iload_n 1, 1) := by decide +kernel
theorem dX7_fits_1 : decode cX7_fits 1 = .ok (.ifCond .ne 23, 3) := by decide +kernel
theorem dX7_fits_4 : decode cX7_fits 4 = .ok (.iload_n 0, 1) := by decide +kernel
theorem dX7_fits_5 : decode cX7_fits 5 = .ok (.bipush 10, 2) := by decide +kernel
theorem dX7_fits_7 : decode cX7_fits 7 = .ok (.if_icmp .eq 9, 3) := by decide +kernel
theorem dX7_fits_10 : decode cX7_fits 10 = .ok (.iload_n 0, 1) := by decide +kernel
theorem dX7_fits_11 : decode cX7_fits 11 = .ok (.bipush 11, 2) := by decide +kernel
theorem dX7_fits_13 : decode cX7_fits 13 = .ok (.if_icmp .ne 7, 3) := by decide +kernel
theorem dX7_fits_16 : decode cX7_fits 16 = .ok (.iconst 1, 1) := by decide +kernel
theorem dX7_fits_17 : decode cX7_fits 17 = .ok (.goto 42, 3) := by decide +kernel
theorem dX7_fits_20 : decode cX7_fits 20 = .ok (.iconst 0, 1) := by decide +kernel
theorem dX7_fits_21 : decode cX7_fits 21 = .ok (.goto 38, 3) := by decide +kernel
theorem dX7_fits_24 : decode cX7_fits 24 = .ok (.iload_n 1, 1) := by decide +kernel
theorem dX7_fits_25 : decode cX7_fits 25 = .ok (.iconst 3, 1) := by decide +kernel
theorem dX7_fits_26 : decode cX7_fits 26 = .ok (.if_icmp .ne 23, 3) := by decide +kernel
theorem dX7_fits_29 : decode cX7_fits 29 = .ok (.iload_n 0, 1) := by decide +kernel
theorem dX7_fits_30 : decode cX7_fits 30 = .ok (.bipush 10, 2) := by decide +kernel
theorem dX7_fits_32 : decode cX7_fits 32 = .ok (.if_icmp .eq 9, 3) := by decide +kernel
theorem dX7_fits_35 : decode cX7_fits 35 = .ok (.iload_n 0, 1) := by decide +kernel
theorem dX7_fits_36 : decode cX7_fits 36 = .ok (.bipush 12, 2) := by decide +kernel
theorem dX7_fits_38 : decode cX7_fits 38 = .ok (.if_icmp .ne 7, 3) := by decide +kernel
theorem dX7_fits_41 : decode cX7_fits 41 = .ok (.iconst 1, 1) := by decide +kernel
theorem dX7_fits_42 : decode cX7_fits 42 = .ok (.goto 17, 3) := by decide +kernel
theorem dX7_fits_45 : decode cX7_fits 45 = .ok (.iconst 0, 1) := by decide +kernel
theorem dX7_fits_46 : decode cX7_fits 46 = .ok (.goto 13, 3) := by decide +kernel
theorem dX7_fits_49 : decode cX7_fits 49 = .ok (.iload_n 0, 1) := by decide +kernel
theorem dX7_fits_50 : decode cX7_fits 50 = .ok (.iload_n 2, 1) := by decide +kernel
theorem dX7_fits_51 : decode cX7_fits 51 = .ok (.if_icmp .ne 7, 3) := by decide +kernel
theorem dX7_fits_54 : decode cX7_fits 54 = .ok (.iconst 1, 1) := by decide +kernel
theorem dX7_fits_55 : decode cX7_fits 55 = .ok (.goto 4, 3) := by decide +kernel
theorem dX7_fits_58 : decode cX7_fits 58 = .ok (.iconst 0, 1) := by decide +kernel
theorem dX7_fits_59 : decode cX7_fits 59 = .ok (.ireturn, 1) := by decide +kernel
theorem dX7_behind_0 : decode cX7_behind 0 = .ok (.iload_n 0, 1) := by decide +kernel
theorem dX7_behind_1 : decode cX7_behind 1 = .ok (.iconst 1, 1) := by decide +kernel
theorem dX7_behind_2 : decode cX7_behind 2 = .ok (.if_icmp .ne 8, 3) := by decide +kernel
theorem dX7_behind_5 : decode cX7_behind 5 = .ok (.bipush 11, 2) := by decide +kernel
theorem dX7_behind_7 : decode cX7_behind 7 = .ok (.goto 14, 3) := by decide +kernel
theorem dX7_behind_10 : decode cX7_behind 10 = .ok (.iload_n 0, 1) := by decide +kernel
theorem dX7_behind_11 : decode cX7_behind 11 = .ok (.iconst 2, 1) := by decide +kernel
theorem dX7_behind_12 : decode cX7_behind 12 = .ok (.if_icmp .ne 8, 3) := by decide +kernel
theorem dX7_behind_15 : decode cX7_behind 15 = .ok (.bipush 12, 2) := by decide +kernel
theorem dX7_behind_17 : decode cX7_behind 17 = .ok (.goto 4, 3) := by decide +kernel
theorem dX7_behind_20 : decode cX7_behind 20 = .ok (.iload_n 1, 1) := by decide +kernel
theorem dX7_behind_21 : decode cX7_behind 21 = .ok (.ireturn, 1) := by decide +kernel
theorem dX7_placeOn_0 : decode cX7_placeOn 0 = .ok (.bipush 10, 2) := by decide +kernel
theorem dX7_placeOn_2 : decode cX7_placeOn 2 = .ok (.istore_n 3, 1) := by decide +kernel
theorem dX7_placeOn_3 : decode cX7_placeOn 3 = .ok (.bipush 30, 2) := by decide +kernel
theorem dX7_placeOn_5 : decode cX7_placeOn 5 = .ok (.iload_n 1, 1) := by decide +kernel
theorem dX7_placeOn_6 : decode cX7_placeOn 6 = .ok (.imul, 1) := by decide +kernel
theorem dX7_placeOn_7 : decode cX7_placeOn 7 = .ok (.istore 4, 2) := by decide +kernel
theorem dX7_placeOn_9 : decode cX7_placeOn 9 = .ok (.iload 4, 2) := by decide +kernel
theorem dX7_placeOn_11 : decode cX7_placeOn 11 = .ok (.bipush 30, 2) := by decide +kernel
theorem dX7_placeOn_13 : decode cX7_placeOn 13 = .ok (.iload_n 1, 1) := by decide +kernel
theorem dX7_placeOn_14 : decode cX7_placeOn 14 = .ok (.imul, 1) := by decide +kernel
theorem dX7_placeOn_15 : decode cX7_placeOn 15 = .ok (.aload_n 0, 1) := by decide +kernel
theorem dX7_placeOn_16 : decode cX7_placeOn 16 = .ok (.getfield 41, 3) := by decide +kernel
theorem dX7_placeOn_19 : decode cX7_placeOn 19 = .ok (.iload_n 1, 1) := by decide +kernel
theorem dX7_placeOn_20 : decode cX7_placeOn 20 = .ok (.iaload, 1) := by decide +kernel
theorem dX7_placeOn_21 : decode cX7_placeOn 21 = .ok (.iadd, 1) := by decide +kernel
theorem dX7_placeOn_22 : decode cX7_placeOn 22 = .ok (.if_icmp .ge 63, 3) := by decide +kernel
theorem dX7_placeOn_25 : decode cX7_placeOn 25 = .ok (.aload_n 0, 1) := by decide +kernel
theorem dX7_placeOn_26 : decode cX7_placeOn 26 = .ok (.getfield 32, 3) := by decide +kernel
theorem dX7_placeOn_29 : decode cX7_placeOn 29 = .ok (.iload 4, 2) := by decide +kernel
theorem dX7_placeOn_31 : decode cX7_placeOn 31 = .ok (.iaload, 1) := by decide +kernel
theorem dX7_placeOn_32 : decode cX7_placeOn 32 = .ok (.iload_n 2, 1) := by decide +kernel
theorem dX7_placeOn_33 : decode cX7_placeOn 33 = .ok (.if_icmp .gt 52, 3) := by decide +kernel
theorem dX7_placeOn_36 : decode cX7_placeOn 36 = .ok (.iload_n 3, 1) := by decide +kernel
theorem dX7_placeOn_37 : decode cX7_placeOn 37 = .ok (.aload_n 0, 1) := by decide +kernel
theorem dX7_placeOn_38 : decode cX7_placeOn 38 = .ok (.getfield 35, 3) := by decide +kernel
theorem dX7_placeOn_41 : decode cX7_placeOn 41 = .ok (.iload 4, 2) := by decide +kernel
theorem dX7_placeOn_43 : decode cX7_placeOn 43 = .ok (.iaload, 1) := by decide +kernel
theorem dX7_placeOn_44 : decode cX7_placeOn 44 = .ok (.aload_n 0, 1) := by decide +kernel
theorem dX7_placeOn_45 : decode cX7_placeOn 45 = .ok (.getfield 38, 3) := by decide +kernel
theorem dX7_placeOn_48 : decode cX7_placeOn 48 = .ok (.iload 4, 2) := by decide +kernel
theorem dX7_placeOn_50 : decode cX7_placeOn 50 = .ok (.iaload, 1) := by decide +kernel
theorem dX7_placeOn_51 : decode cX7_placeOn 51 = .ok (.invokestatic 137, 3) := by decide +kernel
theorem dX7_placeOn_54 : decode cX7_placeOn 54 = .ok (.ifCond .eq 23, 3) := by decide +kernel
theorem dX7_placeOn_57 : decode cX7_placeOn 57 = .ok (.aload_n 0, 1) := by decide +kernel
theorem dX7_placeOn_58 : decode cX7_placeOn 58 = .ok (.getfield 35, 3) := by decide +kernel
theorem dX7_placeOn_61 : decode cX7_placeOn 61 = .ok (.iload 4, 2) := by decide +kernel
theorem dX7_placeOn_63 : decode cX7_placeOn 63 = .ok (.iaload, 1) := by decide +kernel
theorem dX7_placeOn_64 : decode cX7_placeOn 64 = .ok (.aload_n 0, 1) := by decide +kernel
theorem dX7_placeOn_65 : decode cX7_placeOn 65 = .ok (.getfield 38, 3) := by decide +kernel
theorem dX7_placeOn_68 : decode cX7_placeOn 68 = .ok (.iload 4, 2) := by decide +kernel
theorem dX7_placeOn_70 : decode cX7_placeOn 70 = .ok (.iaload, 1) := by decide +kernel
theorem dX7_placeOn_71 : decode cX7_placeOn 71 = .ok (.invokestatic 140, 3) := by decide +kernel
theorem dX7_placeOn_74 : decode cX7_placeOn 74 = .ok (.goto 4, 3) := by decide +kernel
theorem dX7_placeOn_77 : decode cX7_placeOn 77 = .ok (.iload_n 3, 1) := by decide +kernel
theorem dX7_placeOn_78 : decode cX7_placeOn 78 = .ok (.istore_n 3, 1) := by decide +kernel
theorem dX7_placeOn_79 : decode cX7_placeOn 79 = .ok (.iinc 4 1, 3) := by decide +kernel
theorem dX7_placeOn_82 : decode cX7_placeOn 82 = .ok (.goto (-73), 3) := by decide +kernel
theorem dX7_placeOn_85 : decode cX7_placeOn 85 = .ok (.iload_n 3, 1) := by decide +kernel
theorem dX7_placeOn_86 : decode cX7_placeOn 86 = .ok (.ireturn, 1) := by decide +kernel
theorem dX7_doubtful_0 : decode cX7_doubtful 0 = .ok (.bipush 10, 2) := by decide +kernel
theorem dX7_doubtful_2 : decode cX7_doubtful 2 = .ok (.istore_n 2, 1) := by decide +kernel
theorem dX7_doubtful_3 : decode cX7_doubtful 3 = .ok (.iconst 0, 1) := by decide +kernel
theorem dX7_doubtful_4 : decode cX7_doubtful 4 = .ok (.istore_n 3, 1) := by decide +kernel
theorem dX7_doubtful_5 : decode cX7_doubtful 5 = .ok (.bipush 30, 2) := by decide +kernel
theorem dX7_doubtful_7 : decode cX7_doubtful 7 = .ok (.iload_n 1, 1) := by decide +kernel
theorem dX7_doubtful_8 : decode cX7_doubtful 8 = .ok (.imul, 1) := by decide +kernel
theorem dX7_doubtful_9 : decode cX7_doubtful 9 = .ok (.istore 4, 2) := by decide +kernel
theorem dX7_doubtful_11 : decode cX7_doubtful 11 = .ok (.iload 4, 2) := by decide +kernel
theorem dX7_doubtful_13 : decode cX7_doubtful 13 = .ok (.bipush 30, 2) := by decide +kernel
theorem dX7_doubtful_15 : decode cX7_doubtful 15 = .ok (.iload_n 1, 1) := by decide +kernel
theorem dX7_doubtful_16 : decode cX7_doubtful 16 = .ok (.imul, 1) := by decide +kernel
theorem dX7_doubtful_17 : decode cX7_doubtful 17 = .ok (.aload_n 0, 1) := by decide +kernel
theorem dX7_doubtful_18 : decode cX7_doubtful 18 = .ok (.getfield 41, 3) := by decide +kernel
theorem dX7_doubtful_21 : decode cX7_doubtful 21 = .ok (.iload_n 1, 1) := by decide +kernel
theorem dX7_doubtful_22 : decode cX7_doubtful 22 = .ok (.iaload, 1) := by decide +kernel
theorem dX7_doubtful_23 : decode cX7_doubtful 23 = .ok (.iadd, 1) := by decide +kernel
theorem dX7_doubtful_24 : decode cX7_doubtful 24 = .ok (.if_icmp .ge 69, 3) := by decide +kernel
theorem dX7_doubtful_27 : decode cX7_doubtful 27 = .ok (.iload_n 2, 1) := by decide +kernel
theorem dX7_doubtful_28 : decode cX7_doubtful 28 = .ok (.aload_n 0, 1) := by decide +kernel
theorem dX7_doubtful_29 : decode cX7_doubtful 29 = .ok (.getfield 35, 3) := by decide +kernel
theorem dX7_doubtful_32 : decode cX7_doubtful 32 = .ok (.iload 4, 2) := by decide +kernel
theorem dX7_doubtful_34 : decode cX7_doubtful 34 = .ok (.iaload, 1) := by decide +kernel
theorem dX7_doubtful_35 : decode cX7_doubtful 35 = .ok (.aload_n 0, 1) := by decide +kernel
theorem dX7_doubtful_36 : decode cX7_doubtful 36 = .ok (.getfield 38, 3) := by decide +kernel
theorem dX7_doubtful_39 : decode cX7_doubtful 39 = .ok (.iload 4, 2) := by decide +kernel
theorem dX7_doubtful_41 : decode cX7_doubtful 41 = .ok (.iaload, 1) := by decide +kernel
theorem dX7_doubtful_42 : decode cX7_doubtful 42 = .ok (.invokestatic 137, 3) := by decide +kernel
theorem dX7_doubtful_45 : decode cX7_doubtful 45 = .ok (.istore 5, 2) := by decide +kernel
theorem dX7_doubtful_47 : decode cX7_doubtful 47 = .ok (.iload 5, 2) := by decide +kernel
theorem dX7_doubtful_49 : decode cX7_doubtful 49 = .ok (.ifCond .eq 23, 3) := by decide +kernel
theorem dX7_doubtful_52 : decode cX7_doubtful 52 = .ok (.aload_n 0, 1) := by decide +kernel
theorem dX7_doubtful_53 : decode cX7_doubtful 53 = .ok (.getfield 35, 3) := by decide +kernel
theorem dX7_doubtful_56 : decode cX7_doubtful 56 = .ok (.iload 4, 2) := by decide +kernel
theorem dX7_doubtful_58 : decode cX7_doubtful 58 = .ok (.iaload, 1) := by decide +kernel
theorem dX7_doubtful_59 : decode cX7_doubtful 59 = .ok (.aload_n 0, 1) := by decide +kernel
theorem dX7_doubtful_60 : decode cX7_doubtful 60 = .ok (.getfield 38, 3) := by decide +kernel
theorem dX7_doubtful_63 : decode cX7_doubtful 63 = .ok (.iload 4, 2) := by decide +kernel
theorem dX7_doubtful_65 : decode cX7_doubtful 65 = .ok (.iaload, 1) := by decide +kernel
theorem dX7_doubtful_66 : decode cX7_doubtful 66 = .ok (.invokestatic 140, 3) := by decide +kernel
theorem dX7_doubtful_69 : decode cX7_doubtful 69 = .ok (.goto 4, 3) := by decide +kernel
theorem dX7_doubtful_72 : decode cX7_doubtful 72 = .ok (.iload_n 2, 1) := by decide +kernel
theorem dX7_doubtful_73 : decode cX7_doubtful 73 = .ok (.istore_n 2, 1) := by decide +kernel
theorem dX7_doubtful_74 : decode cX7_doubtful 74 = .ok (.iload_n 3, 1) := by decide +kernel
theorem dX7_doubtful_75 : decode cX7_doubtful 75 = .ok (.iload 5, 2) := by decide +kernel
theorem dX7_doubtful_77 : decode cX7_doubtful 77 = .ok (.ifCond .eq 7, 3) := by decide +kernel
theorem dX7_doubtful_80 : decode cX7_doubtful 80 = .ok (.iconst 0, 1) := by decide +kernel
theorem dX7_doubtful_81 : decode cX7_doubtful 81 = .ok (.goto 4, 3) := by decide +kernel
theorem dX7_doubtful_84 : decode cX7_doubtful 84 = .ok (.iconst 1, 1) := by decide +kernel
theorem dX7_doubtful_85 : decode cX7_doubtful 85 = .ok (.iadd, 1) := by decide +kernel
theorem dX7_doubtful_86 : decode cX7_doubtful 86 = .ok (.istore_n 3, 1) := by decide +kernel
theorem dX7_doubtful_87 : decode cX7_doubtful 87 = .ok (.iinc 4 1, 3) := by decide +kernel
theorem dX7_doubtful_90 : decode cX7_doubtful 90 = .ok (.goto (-79), 3) := by decide +kernel
theorem dX7_doubtful_93 : decode cX7_doubtful 93 = .ok (.iload_n 3, 1) := by decide +kernel
theorem dX7_doubtful_94 : decode cX7_doubtful 94 = .ok (.ireturn, 1) := by decide +kernel
theorem dX7_wasTold_0 : decode cX7_wasTold 0 = .ok (.iconst 0, 1) := by decide +kernel
theorem dX7_wasTold_1 : decode cX7_wasTold 1 = .ok (.istore 5, 2) := by decide +kernel
theorem dX7_wasTold_3 : decode cX7_wasTold 3 = .ok (.bipush 30, 2) := by decide +kernel
theorem dX7_wasTold_5 : decode cX7_wasTold 5 = .ok (.iload_n 1, 1) := by decide +kernel
theorem dX7_wasTold_6 : decode cX7_wasTold 6 = .ok (.imul, 1) := by decide +kernel
theorem dX7_wasTold_7 : decode cX7_wasTold 7 = .ok (.istore 6, 2) := by decide +kernel
theorem dX7_wasTold_9 : decode cX7_wasTold 9 = .ok (.iload 6, 2) := by decide +kernel
theorem dX7_wasTold_11 : decode cX7_wasTold 11 = .ok (.bipush 30, 2) := by decide +kernel
theorem dX7_wasTold_13 : decode cX7_wasTold 13 = .ok (.iload_n 1, 1) := by decide +kernel
theorem dX7_wasTold_14 : decode cX7_wasTold 14 = .ok (.imul, 1) := by decide +kernel
theorem dX7_wasTold_15 : decode cX7_wasTold 15 = .ok (.aload_n 0, 1) := by decide +kernel
theorem dX7_wasTold_16 : decode cX7_wasTold 16 = .ok (.getfield 41, 3) := by decide +kernel
theorem dX7_wasTold_19 : decode cX7_wasTold 19 = .ok (.iload_n 1, 1) := by decide +kernel
theorem dX7_wasTold_20 : decode cX7_wasTold 20 = .ok (.iaload, 1) := by decide +kernel
theorem dX7_wasTold_21 : decode cX7_wasTold 21 = .ok (.iadd, 1) := by decide +kernel
theorem dX7_wasTold_22 : decode cX7_wasTold 22 = .ok (.if_icmp .ge 55, 3) := by decide +kernel
theorem dX7_wasTold_25 : decode cX7_wasTold 25 = .ok (.iload 5, 2) := by decide +kernel
theorem dX7_wasTold_27 : decode cX7_wasTold 27 = .ok (.ifCond .ne 37, 3) := by decide +kernel
theorem dX7_wasTold_30 : decode cX7_wasTold 30 = .ok (.aload_n 0, 1) := by decide +kernel
theorem dX7_wasTold_31 : decode cX7_wasTold 31 = .ok (.getfield 32, 3) := by decide +kernel
theorem dX7_wasTold_34 : decode cX7_wasTold 34 = .ok (.iload 6, 2) := by decide +kernel
theorem dX7_wasTold_36 : decode cX7_wasTold 36 = .ok (.iaload, 1) := by decide +kernel
theorem dX7_wasTold_37 : decode cX7_wasTold 37 = .ok (.iload_n 2, 1) := by decide +kernel
theorem dX7_wasTold_38 : decode cX7_wasTold 38 = .ok (.if_icmp .ne 30, 3) := by decide +kernel
theorem dX7_wasTold_41 : decode cX7_wasTold 41 = .ok (.aload_n 0, 1) := by decide +kernel
theorem dX7_wasTold_42 : decode cX7_wasTold 42 = .ok (.getfield 35, 3) := by decide +kernel
theorem dX7_wasTold_45 : decode cX7_wasTold 45 = .ok (.iload 6, 2) := by decide +kernel
theorem dX7_wasTold_47 : decode cX7_wasTold 47 = .ok (.iaload, 1) := by decide +kernel
theorem dX7_wasTold_48 : decode cX7_wasTold 48 = .ok (.iload_n 3, 1) := by decide +kernel
theorem dX7_wasTold_49 : decode cX7_wasTold 49 = .ok (.if_icmp .ne 19, 3) := by decide +kernel
theorem dX7_wasTold_52 : decode cX7_wasTold 52 = .ok (.aload_n 0, 1) := by decide +kernel
theorem dX7_wasTold_53 : decode cX7_wasTold 53 = .ok (.getfield 38, 3) := by decide +kernel
theorem dX7_wasTold_56 : decode cX7_wasTold 56 = .ok (.iload 6, 2) := by decide +kernel
theorem dX7_wasTold_58 : decode cX7_wasTold 58 = .ok (.iaload, 1) := by decide +kernel
theorem dX7_wasTold_59 : decode cX7_wasTold 59 = .ok (.iload 4, 2) := by decide +kernel
theorem dX7_wasTold_61 : decode cX7_wasTold 61 = .ok (.if_icmp .ne 7, 3) := by decide +kernel
theorem dX7_wasTold_64 : decode cX7_wasTold 64 = .ok (.iconst 1, 1) := by decide +kernel
theorem dX7_wasTold_65 : decode cX7_wasTold 65 = .ok (.goto 4, 3) := by decide +kernel
theorem dX7_wasTold_68 : decode cX7_wasTold 68 = .ok (.iconst 0, 1) := by decide +kernel
theorem dX7_wasTold_69 : decode cX7_wasTold 69 = .ok (.istore 5, 2) := by decide +kernel
theorem dX7_wasTold_71 : decode cX7_wasTold 71 = .ok (.iinc 6 1, 3) := by decide +kernel
theorem dX7_wasTold_74 : decode cX7_wasTold 74 = .ok (.goto (-65), 3) := by decide +kernel
theorem dX7_wasTold_77 : decode cX7_wasTold 77 = .ok (.iload 5, 2) := by decide +kernel
theorem dX7_wasTold_79 : decode cX7_wasTold 79 = .ok (.ireturn, 1) := by decide +kernel
theorem dX7_reports_0 : decode cX7_reports 0 = .ok (.aload_n 0, 1) := by decide +kernel
theorem dX7_reports_1 : decode cX7_reports 1 = .ok (.iload_n 1, 1) := by decide +kernel
theorem dX7_reports_2 : decode cX7_reports 2 = .ok (.iload_n 2, 1) := by decide +kernel
theorem dX7_reports_3 : decode cX7_reports 3 = .ok (.iload_n 3, 1) := by decide +kernel
theorem dX7_reports_4 : decode cX7_reports 4 = .ok (.iload 4, 2) := by decide +kernel
theorem dX7_reports_6 : decode cX7_reports 6 = .ok (.invokevirtual 144, 3) := by decide +kernel
theorem dX7_reports_9 : decode cX7_reports 9 = .ok (.ifCond .eq 5, 3) := by decide +kernel
theorem dX7_reports_12 : decode cX7_reports 12 = .ok (.iconst (-1), 1) := by decide +kernel
theorem dX7_reports_13 : decode cX7_reports 13 = .ok (.ireturn, 1) := by decide +kernel
theorem dX7_reports_14 : decode cX7_reports 14 = .ok (.bipush 30, 2) := by decide +kernel
theorem dX7_reports_16 : decode cX7_reports 16 = .ok (.iload_n 1, 1) := by decide +kernel
theorem dX7_reports_17 : decode cX7_reports 17 = .ok (.imul, 1) := by decide +kernel
theorem dX7_reports_18 : decode cX7_reports 18 = .ok (.aload_n 0, 1) := by decide +kernel
theorem dX7_reports_19 : decode cX7_reports 19 = .ok (.getfield 41, 3) := by decide +kernel
theorem dX7_reports_22 : decode cX7_reports 22 = .ok (.iload_n 1, 1) := by decide +kernel
theorem dX7_reports_23 : decode cX7_reports 23 = .ok (.iaload, 1) := by decide +kernel
theorem dX7_reports_24 : decode cX7_reports 24 = .ok (.iadd, 1) := by decide +kernel
theorem dX7_reports_25 : decode cX7_reports 25 = .ok (.istore 5, 2) := by decide +kernel
theorem dX7_reports_27 : decode cX7_reports 27 = .ok (.iload 5, 2) := by decide +kernel
theorem dX7_reports_29 : decode cX7_reports 29 = .ok (.bipush 30, 2) := by decide +kernel
theorem dX7_reports_31 : decode cX7_reports 31 = .ok (.iload_n 1, 1) := by decide +kernel
theorem dX7_reports_32 : decode cX7_reports 32 = .ok (.imul, 1) := by decide +kernel
theorem dX7_reports_33 : decode cX7_reports 33 = .ok (.if_icmp .le 70, 3) := by decide +kernel
theorem dX7_reports_36 : decode cX7_reports 36 = .ok (.aload_n 0, 1) := by decide +kernel
theorem dX7_reports_37 : decode cX7_reports 37 = .ok (.getfield 32, 3) := by decide +kernel
theorem dX7_reports_40 : decode cX7_reports 40 = .ok (.iload 5, 2) := by decide +kernel
theorem dX7_reports_42 : decode cX7_reports 42 = .ok (.iconst 1, 1) := by decide +kernel
theorem dX7_reports_43 : decode cX7_reports 43 = .ok (.isub, 1) := by decide +kernel
theorem dX7_reports_44 : decode cX7_reports 44 = .ok (.iaload, 1) := by decide +kernel
theorem dX7_reports_45 : decode cX7_reports 45 = .ok (.iload_n 2, 1) := by decide +kernel
theorem dX7_reports_46 : decode cX7_reports 46 = .ok (.if_icmp .le 57, 3) := by decide +kernel
theorem dX7_reports_49 : decode cX7_reports 49 = .ok (.aload_n 0, 1) := by decide +kernel
theorem dX7_reports_50 : decode cX7_reports 50 = .ok (.getfield 32, 3) := by decide +kernel
theorem dX7_reports_53 : decode cX7_reports 53 = .ok (.iload 5, 2) := by decide +kernel
theorem dX7_reports_55 : decode cX7_reports 55 = .ok (.aload_n 0, 1) := by decide +kernel
theorem dX7_reports_56 : decode cX7_reports 56 = .ok (.getfield 32, 3) := by decide +kernel
theorem dX7_reports_59 : decode cX7_reports 59 = .ok (.iload 5, 2) := by decide +kernel
theorem dX7_reports_61 : decode cX7_reports 61 = .ok (.iconst 1, 1) := by decide +kernel
theorem dX7_reports_62 : decode cX7_reports 62 = .ok (.isub, 1) := by decide +kernel
theorem dX7_reports_63 : decode cX7_reports 63 = .ok (.iaload, 1) := by decide +kernel
theorem dX7_reports_64 : decode cX7_reports 64 = .ok (.iastore, 1) := by decide +kernel
theorem dX7_reports_65 : decode cX7_reports 65 = .ok (.aload_n 0, 1) := by decide +kernel
theorem dX7_reports_66 : decode cX7_reports 66 = .ok (.getfield 35, 3) := by decide +kernel
theorem dX7_reports_69 : decode cX7_reports 69 = .ok (.iload 5, 2) := by decide +kernel
theorem dX7_reports_71 : decode cX7_reports 71 = .ok (.aload_n 0, 1) := by decide +kernel
theorem dX7_reports_72 : decode cX7_reports 72 = .ok (.getfield 35, 3) := by decide +kernel
theorem dX7_reports_75 : decode cX7_reports 75 = .ok (.iload 5, 2) := by decide +kernel
theorem dX7_reports_77 : decode cX7_reports 77 = .ok (.iconst 1, 1) := by decide +kernel
theorem dX7_reports_78 : decode cX7_reports 78 = .ok (.isub, 1) := by decide +kernel
theorem dX7_reports_79 : decode cX7_reports 79 = .ok (.iaload, 1) := by decide +kernel
theorem dX7_reports_80 : decode cX7_reports 80 = .ok (.iastore, 1) := by decide +kernel
theorem dX7_reports_81 : decode cX7_reports 81 = .ok (.aload_n 0, 1) := by decide +kernel
theorem dX7_reports_82 : decode cX7_reports 82 = .ok (.getfield 38, 3) := by decide +kernel
theorem dX7_reports_85 : decode cX7_reports 85 = .ok (.iload 5, 2) := by decide +kernel
theorem dX7_reports_87 : decode cX7_reports 87 = .ok (.aload_n 0, 1) := by decide +kernel
theorem dX7_reports_88 : decode cX7_reports 88 = .ok (.getfield 38, 3) := by decide +kernel
theorem dX7_reports_91 : decode cX7_reports 91 = .ok (.iload 5, 2) := by decide +kernel
theorem dX7_reports_93 : decode cX7_reports 93 = .ok (.iconst 1, 1) := by decide +kernel
theorem dX7_reports_94 : decode cX7_reports 94 = .ok (.isub, 1) := by decide +kernel
theorem dX7_reports_95 : decode cX7_reports 95 = .ok (.iaload, 1) := by decide +kernel
theorem dX7_reports_96 : decode cX7_reports 96 = .ok (.iastore, 1) := by decide +kernel
theorem dX7_reports_97 : decode cX7_reports 97 = .ok (.iinc 5 (-1), 3) := by decide +kernel
theorem dX7_reports_100 : decode cX7_reports 100 = .ok (.goto (-73), 3) := by decide +kernel
theorem dX7_reports_103 : decode cX7_reports 103 = .ok (.aload_n 0, 1) := by decide +kernel
theorem dX7_reports_104 : decode cX7_reports 104 = .ok (.getfield 32, 3) := by decide +kernel
theorem dX7_reports_107 : decode cX7_reports 107 = .ok (.iload 5, 2) := by decide +kernel
theorem dX7_reports_109 : decode cX7_reports 109 = .ok (.iload_n 2, 1) := by decide +kernel
theorem dX7_reports_110 : decode cX7_reports 110 = .ok (.iastore, 1) := by decide +kernel
theorem dX7_reports_111 : decode cX7_reports 111 = .ok (.aload_n 0, 1) := by decide +kernel
theorem dX7_reports_112 : decode cX7_reports 112 = .ok (.getfield 35, 3) := by decide +kernel
theorem dX7_reports_115 : decode cX7_reports 115 = .ok (.iload 5, 2) := by decide +kernel
theorem dX7_reports_117 : decode cX7_reports 117 = .ok (.iload_n 3, 1) := by decide +kernel
theorem dX7_reports_118 : decode cX7_reports 118 = .ok (.iastore, 1) := by decide +kernel
theorem dX7_reports_119 : decode cX7_reports 119 = .ok (.aload_n 0, 1) := by decide +kernel
theorem dX7_reports_120 : decode cX7_reports 120 = .ok (.getfield 38, 3) := by decide +kernel
theorem dX7_reports_123 : decode cX7_reports 123 = .ok (.iload 5, 2) := by decide +kernel
theorem dX7_reports_125 : decode cX7_reports 125 = .ok (.iload 4, 2) := by decide +kernel
theorem dX7_reports_127 : decode cX7_reports 127 = .ok (.iastore, 1) := by decide +kernel
theorem dX7_reports_128 : decode cX7_reports 128 = .ok (.aload_n 0, 1) := by decide +kernel
theorem dX7_reports_129 : decode cX7_reports 129 = .ok (.getfield 41, 3) := by decide +kernel
theorem dX7_reports_132 : decode cX7_reports 132 = .ok (.iload_n 1, 1) := by decide +kernel
theorem dX7_reports_133 : decode cX7_reports 133 = .ok (.dup2, 1) := by decide +kernel
theorem dX7_reports_134 : decode cX7_reports 134 = .ok (.iaload, 1) := by decide +kernel
theorem dX7_reports_135 : decode cX7_reports 135 = .ok (.iconst 1, 1) := by decide +kernel
theorem dX7_reports_136 : decode cX7_reports 136 = .ok (.iadd, 1) := by decide +kernel
theorem dX7_reports_137 : decode cX7_reports 137 = .ok (.iastore, 1) := by decide +kernel
theorem dX7_reports_138 : decode cX7_reports 138 = .ok (.aload_n 0, 1) := by decide +kernel
theorem dX7_reports_139 : decode cX7_reports 139 = .ok (.iload_n 1, 1) := by decide +kernel
theorem dX7_reports_140 : decode cX7_reports 140 = .ok (.invokevirtual 148, 3) := by decide +kernel
theorem dX7_reports_143 : decode cX7_reports 143 = .ok (.ireturn, 1) := by decide +kernel
theorem dX7_report_0 : decode cX7_report 0 = .ok (.aload_n 0, 1) := by decide +kernel
theorem dX7_report_1 : decode cX7_report 1 = .ok (.iload_n 1, 1) := by decide +kernel
theorem dX7_report_2 : decode cX7_report 2 = .ok (.invokevirtual 131, 3) := by decide +kernel
theorem dX7_report_5 : decode cX7_report 5 = .ok (.ifCond .eq 15, 3) := by decide +kernel
theorem dX7_report_8 : decode cX7_report 8 = .ok (.iload 4, 2) := by decide +kernel
theorem dX7_report_10 : decode cX7_report 10 = .ok (.invokestatic 118, 3) := by decide +kernel
theorem dX7_report_13 : decode cX7_report 13 = .ok (.ifCond .eq 7, 3) := by decide +kernel
theorem dX7_report_16 : decode cX7_report 16 = .ok (.iconst 1, 1) := by decide +kernel
theorem dX7_report_17 : decode cX7_report 17 = .ok (.goto 4, 3) := by decide +kernel
theorem dX7_report_20 : decode cX7_report 20 = .ok (.iconst 0, 1) := by decide +kernel
theorem dX7_report_21 : decode cX7_report 21 = .ok (.istore 5, 2) := by decide +kernel
theorem dX7_report_23 : decode cX7_report 23 = .ok (.iload_n 2, 1) := by decide +kernel
theorem dX7_report_24 : decode cX7_report 24 = .ok (.iconst 0, 1) := by decide +kernel
theorem dX7_report_25 : decode cX7_report 25 = .ok (.aload_n 0, 1) := by decide +kernel
theorem dX7_report_26 : decode cX7_report 26 = .ok (.getfield 152, 3) := by decide +kernel
theorem dX7_report_29 : decode cX7_report 29 = .ok (.invokestatic 111, 3) := by decide +kernel
theorem dX7_report_32 : decode cX7_report 32 = .ok (.ifCond .eq 16, 3) := by decide +kernel
theorem dX7_report_35 : decode cX7_report 35 = .ok (.iload_n 3, 1) := by decide +kernel
theorem dX7_report_36 : decode cX7_report 36 = .ok (.iconst 0, 1) := by decide +kernel
theorem dX7_report_37 : decode cX7_report 37 = .ok (.iconst 3, 1) := by decide +kernel
theorem dX7_report_38 : decode cX7_report 38 = .ok (.invokestatic 111, 3) := by decide +kernel
theorem dX7_report_41 : decode cX7_report 41 = .ok (.ifCond .eq 7, 3) := by decide +kernel
theorem dX7_report_44 : decode cX7_report 44 = .ok (.iconst 1, 1) := by decide +kernel
theorem dX7_report_45 : decode cX7_report 45 = .ok (.goto 4, 3) := by decide +kernel
theorem dX7_report_48 : decode cX7_report 48 = .ok (.iconst 0, 1) := by decide +kernel
theorem dX7_report_49 : decode cX7_report 49 = .ok (.istore 6, 2) := by decide +kernel
theorem dX7_report_51 : decode cX7_report 51 = .ok (.aload_n 0, 1) := by decide +kernel
theorem dX7_report_52 : decode cX7_report 52 = .ok (.iload 5, 2) := by decide +kernel
theorem dX7_report_54 : decode cX7_report 54 = .ok (.ifCond .ne 7, 3) := by decide +kernel
theorem dX7_report_57 : decode cX7_report 57 = .ok (.iconst 1, 1) := by decide +kernel
theorem dX7_report_58 : decode cX7_report 58 = .ok (.goto 36, 3) := by decide +kernel
theorem dX7_report_61 : decode cX7_report 61 = .ok (.iload 6, 2) := by decide +kernel
theorem dX7_report_63 : decode cX7_report 63 = .ok (.ifCond .ne 7, 3) := by decide +kernel
theorem dX7_report_66 : decode cX7_report 66 = .ok (.iconst 2, 1) := by decide +kernel
theorem dX7_report_67 : decode cX7_report 67 = .ok (.goto 27, 3) := by decide +kernel
theorem dX7_report_70 : decode cX7_report 70 = .ok (.aload_n 0, 1) := by decide +kernel
theorem dX7_report_71 : decode cX7_report 71 = .ok (.iload_n 1, 1) := by decide +kernel
theorem dX7_report_72 : decode cX7_report 72 = .ok (.invokevirtual 134, 3) := by decide +kernel
theorem dX7_report_75 : decode cX7_report 75 = .ok (.ifCond .ne 14, 3) := by decide +kernel
theorem dX7_report_78 : decode cX7_report 78 = .ok (.aload_n 0, 1) := by decide +kernel
theorem dX7_report_79 : decode cX7_report 79 = .ok (.getfield 41, 3) := by decide +kernel
theorem dX7_report_82 : decode cX7_report 82 = .ok (.iload_n 1, 1) := by decide +kernel
theorem dX7_report_83 : decode cX7_report 83 = .ok (.iaload, 1) := by decide +kernel
theorem dX7_report_84 : decode cX7_report 84 = .ok (.bipush 30, 2) := by decide +kernel
theorem dX7_report_86 : decode cX7_report 86 = .ok (.if_icmp .ne 7, 3) := by decide +kernel
theorem dX7_report_89 : decode cX7_report 89 = .ok (.iconst 3, 1) := by decide +kernel
theorem dX7_report_90 : decode cX7_report 90 = .ok (.goto 4, 3) := by decide +kernel
theorem dX7_report_93 : decode cX7_report 93 = .ok (.iconst 0, 1) := by decide +kernel
theorem dX7_report_94 : decode cX7_report 94 = .ok (.invokevirtual 125, 3) := by decide +kernel
theorem dX7_report_97 : decode cX7_report 97 = .ok (.ifCond .eq 15, 3) := by decide +kernel
theorem dX7_report_100 : decode cX7_report 100 = .ok (.aload_n 0, 1) := by decide +kernel
theorem dX7_report_101 : decode cX7_report 101 = .ok (.iload_n 1, 1) := by decide +kernel
theorem dX7_report_102 : decode cX7_report 102 = .ok (.iload_n 2, 1) := by decide +kernel
theorem dX7_report_103 : decode cX7_report 103 = .ok (.iload_n 3, 1) := by decide +kernel
theorem dX7_report_104 : decode cX7_report 104 = .ok (.iload 4, 2) := by decide +kernel
theorem dX7_report_106 : decode cX7_report 106 = .ok (.invokevirtual 155, 3) := by decide +kernel
theorem dX7_report_109 : decode cX7_report 109 = .ok (.goto 4, 3) := by decide +kernel
theorem dX7_report_112 : decode cX7_report 112 = .ok (.iconst 0, 1) := by decide +kernel
theorem dX7_report_113 : decode cX7_report 113 = .ok (.ireturn, 1) := by decide +kernel
theorem dX7_place_0 : decode cX7_place 0 = .ok (.aload_n 0, 1) := by decide +kernel
theorem dX7_place_1 : decode cX7_place 1 = .ok (.iload_n 1, 1) := by decide +kernel
theorem dX7_place_2 : decode cX7_place 2 = .ok (.invokevirtual 131, 3) := by decide +kernel
theorem dX7_place_5 : decode cX7_place 5 = .ok (.istore_n 3, 1) := by decide +kernel
theorem dX7_place_6 : decode cX7_place 6 = .ok (.aload_n 0, 1) := by decide +kernel
theorem dX7_place_7 : decode cX7_place 7 = .ok (.iload_n 3, 1) := by decide +kernel
theorem dX7_place_8 : decode cX7_place 8 = .ok (.ifCond .ne 7, 3) := by decide +kernel
theorem dX7_place_11 : decode cX7_place 11 = .ok (.iconst 1, 1) := by decide +kernel
theorem dX7_place_12 : decode cX7_place 12 = .ok (.goto 15, 3) := by decide +kernel
theorem dX7_place_15 : decode cX7_place 15 = .ok (.iload_n 2, 1) := by decide +kernel
theorem dX7_place_16 : decode cX7_place 16 = .ok (.invokestatic 122, 3) := by decide +kernel
theorem dX7_place_19 : decode cX7_place 19 = .ok (.ifCond .ne 7, 3) := by decide +kernel
theorem dX7_place_22 : decode cX7_place 22 = .ok (.iconst 2, 1) := by decide +kernel
theorem dX7_place_23 : decode cX7_place 23 = .ok (.goto 4, 3) := by decide +kernel
theorem dX7_place_26 : decode cX7_place 26 = .ok (.iconst 0, 1) := by decide +kernel
theorem dX7_place_27 : decode cX7_place 27 = .ok (.invokevirtual 125, 3) := by decide +kernel
theorem dX7_place_30 : decode cX7_place 30 = .ok (.ifCond .eq 12, 3) := by decide +kernel
theorem dX7_place_33 : decode cX7_place 33 = .ok (.aload_n 0, 1) := by decide +kernel
theorem dX7_place_34 : decode cX7_place 34 = .ok (.iload_n 1, 1) := by decide +kernel
theorem dX7_place_35 : decode cX7_place 35 = .ok (.iload_n 2, 1) := by decide +kernel
theorem dX7_place_36 : decode cX7_place 36 = .ok (.invokevirtual 158, 3) := by decide +kernel
theorem dX7_place_39 : decode cX7_place 39 = .ok (.goto 4, 3) := by decide +kernel
theorem dX7_place_42 : decode cX7_place 42 = .ok (.iconst 0, 1) := by decide +kernel
theorem dX7_place_43 : decode cX7_place 43 = .ok (.ireturn, 1) := by decide +kernel
theorem dX7_count_0 : decode cX7_count 0 = .ok (.aload_n 0, 1) := by decide +kernel
theorem dX7_count_1 : decode cX7_count 1 = .ok (.iload_n 1, 1) := by decide +kernel
theorem dX7_count_2 : decode cX7_count 2 = .ok (.invokestatic 118, 3) := by decide +kernel
theorem dX7_count_5 : decode cX7_count 5 = .ok (.ifCond .ne 7, 3) := by decide +kernel
theorem dX7_count_8 : decode cX7_count 8 = .ok (.iconst 1, 1) := by decide +kernel
theorem dX7_count_9 : decode cX7_count 9 = .ok (.goto 24, 3) := by decide +kernel
theorem dX7_count_12 : decode cX7_count 12 = .ok (.iload_n 2, 1) := by decide +kernel
theorem dX7_count_13 : decode cX7_count 13 = .ok (.iconst (-1), 1) := by decide +kernel
theorem dX7_count_14 : decode cX7_count 14 = .ok (.iconst 2, 1) := by decide +kernel
theorem dX7_count_15 : decode cX7_count 15 = .ok (.invokestatic 111, 3) := by decide +kernel
theorem dX7_count_18 : decode cX7_count 18 = .ok (.ifCond .eq 10, 3) := by decide +kernel
theorem dX7_count_21 : decode cX7_count 21 = .ok (.iload_n 3, 1) := by decide +kernel
theorem dX7_count_22 : decode cX7_count 22 = .ok (.invokestatic 122, 3) := by decide +kernel
theorem dX7_count_25 : decode cX7_count 25 = .ok (.ifCond .ne 7, 3) := by decide +kernel
theorem dX7_count_28 : decode cX7_count 28 = .ok (.iconst 2, 1) := by decide +kernel
theorem dX7_count_29 : decode cX7_count 29 = .ok (.goto 4, 3) := by decide +kernel
theorem dX7_count_32 : decode cX7_count 32 = .ok (.iconst 0, 1) := by decide +kernel
theorem dX7_count_33 : decode cX7_count 33 = .ok (.invokevirtual 125, 3) := by decide +kernel
theorem dX7_count_36 : decode cX7_count 36 = .ok (.ifCond .ne 5, 3) := by decide +kernel
theorem dX7_count_39 : decode cX7_count 39 = .ok (.iconst 0, 1) := by decide +kernel
theorem dX7_count_40 : decode cX7_count 40 = .ok (.ireturn, 1) := by decide +kernel
theorem dX7_count_41 : decode cX7_count 41 = .ok (.iconst 0, 1) := by decide +kernel
theorem dX7_count_42 : decode cX7_count 42 = .ok (.istore 4, 2) := by decide +kernel
theorem dX7_count_44 : decode cX7_count 44 = .ok (.iconst 0, 1) := by decide +kernel
theorem dX7_count_45 : decode cX7_count 45 = .ok (.istore 5, 2) := by decide +kernel
theorem dX7_count_47 : decode cX7_count 47 = .ok (.iload 5, 2) := by decide +kernel
theorem dX7_count_49 : decode cX7_count 49 = .ok (.aload_n 0, 1) := by decide +kernel
theorem dX7_count_50 : decode cX7_count 50 = .ok (.getfield 115, 3) := by decide +kernel
theorem dX7_count_53 : decode cX7_count 53 = .ok (.if_icmp .ge 46, 3) := by decide +kernel
theorem dX7_count_56 : decode cX7_count 56 = .ok (.iload 4, 2) := by decide +kernel
theorem dX7_count_58 : decode cX7_count 58 = .ok (.iload_n 2, 1) := by decide +kernel
theorem dX7_count_59 : decode cX7_count 59 = .ok (.iconst (-1), 1) := by decide +kernel
theorem dX7_count_60 : decode cX7_count 60 = .ok (.if_icmp .eq 14, 3) := by decide +kernel
theorem dX7_count_63 : decode cX7_count 63 = .ok (.aload_n 0, 1) := by decide +kernel
theorem dX7_count_64 : decode cX7_count 64 = .ok (.getfield 13, 3) := by decide +kernel
theorem dX7_count_67 : decode cX7_count 67 = .ok (.iload 5, 2) := by decide +kernel
theorem dX7_count_69 : decode cX7_count 69 = .ok (.iaload, 1) := by decide +kernel
theorem dX7_count_70 : decode cX7_count 70 = .ok (.iload_n 2, 1) := by decide +kernel
theorem dX7_count_71 : decode cX7_count 71 = .ok (.if_icmp .ne 18, 3) := by decide +kernel
theorem dX7_count_74 : decode cX7_count 74 = .ok (.aload_n 0, 1) := by decide +kernel
theorem dX7_count_75 : decode cX7_count 75 = .ok (.iload 5, 2) := by decide +kernel
theorem dX7_count_77 : decode cX7_count 77 = .ok (.iload_n 3, 1) := by decide +kernel
theorem dX7_count_78 : decode cX7_count 78 = .ok (.invokevirtual 158, 3) := by decide +kernel
theorem dX7_count_81 : decode cX7_count 81 = .ok (.iload_n 1, 1) := by decide +kernel
theorem dX7_count_82 : decode cX7_count 82 = .ok (.if_icmp .ne 7, 3) := by decide +kernel
theorem dX7_count_85 : decode cX7_count 85 = .ok (.iconst 1, 1) := by decide +kernel
theorem dX7_count_86 : decode cX7_count 86 = .ok (.goto 4, 3) := by decide +kernel
theorem dX7_count_89 : decode cX7_count 89 = .ok (.iconst 0, 1) := by decide +kernel
theorem dX7_count_90 : decode cX7_count 90 = .ok (.iadd, 1) := by decide +kernel
theorem dX7_count_91 : decode cX7_count 91 = .ok (.istore 4, 2) := by decide +kernel
theorem dX7_count_93 : decode cX7_count 93 = .ok (.iinc 5 1, 3) := by decide +kernel
theorem dX7_count_96 : decode cX7_count 96 = .ok (.goto (-49), 3) := by decide +kernel
theorem dX7_count_99 : decode cX7_count 99 = .ok (.iload 4, 2) := by decide +kernel
theorem dX7_count_101 : decode cX7_count 101 = .ok (.ireturn, 1) := by decide +kernel
theorem dX7_days_0 : decode cX7_days 0 = .ok (.aload_n 0, 1) := by decide +kernel
theorem dX7_days_1 : decode cX7_days 1 = .ok (.iload_n 1, 1) := by decide +kernel
theorem dX7_days_2 : decode cX7_days 2 = .ok (.invokevirtual 131, 3) := by decide +kernel
theorem dX7_days_5 : decode cX7_days 5 = .ok (.istore 5, 2) := by decide +kernel
theorem dX7_days_7 : decode cX7_days 7 = .ok (.iload_n 2, 1) := by decide +kernel
theorem dX7_days_8 : decode cX7_days 8 = .ok (.invokestatic 122, 3) := by decide +kernel
theorem dX7_days_11 : decode cX7_days 11 = .ok (.ifCond .eq 40, 3) := by decide +kernel
theorem dX7_days_14 : decode cX7_days 14 = .ok (.iload_n 3, 1) := by decide +kernel
theorem dX7_days_15 : decode cX7_days 15 = .ok (.iload_n 2, 1) := by decide +kernel
theorem dX7_days_16 : decode cX7_days 16 = .ok (.iload_n 2, 1) := by decide +kernel
theorem dX7_days_17 : decode cX7_days 17 = .ok (.sipush 400, 3) := by decide +kernel
theorem dX7_days_20 : decode cX7_days 20 = .ok (.iadd, 1) := by decide +kernel
theorem dX7_days_21 : decode cX7_days 21 = .ok (.invokestatic 111, 3) := by decide +kernel
theorem dX7_days_24 : decode cX7_days 24 = .ok (.ifCond .eq 27, 3) := by decide +kernel
theorem dX7_days_27 : decode cX7_days 27 = .ok (.iload 4, 2) := by decide +kernel
theorem dX7_days_29 : decode cX7_days 29 = .ok (.invokestatic 118, 3) := by decide +kernel
theorem dX7_days_32 : decode cX7_days 32 = .ok (.ifCond .ne 15, 3) := by decide +kernel
theorem dX7_days_35 : decode cX7_days 35 = .ok (.iload 4, 2) := by decide +kernel
theorem dX7_days_37 : decode cX7_days 37 = .ok (.bipush 10, 2) := by decide +kernel
theorem dX7_days_39 : decode cX7_days 39 = .ok (.bipush 12, 2) := by decide +kernel
theorem dX7_days_41 : decode cX7_days 41 = .ok (.invokestatic 111, 3) := by decide +kernel
theorem dX7_days_44 : decode cX7_days 44 = .ok (.ifCond .eq 7, 3) := by decide +kernel
theorem dX7_days_47 : decode cX7_days 47 = .ok (.iconst 1, 1) := by decide +kernel
theorem dX7_days_48 : decode cX7_days 48 = .ok (.goto 4, 3) := by decide +kernel
theorem dX7_days_51 : decode cX7_days 51 = .ok (.iconst 0, 1) := by decide +kernel
theorem dX7_days_52 : decode cX7_days 52 = .ok (.istore 6, 2) := by decide +kernel
theorem dX7_days_54 : decode cX7_days 54 = .ok (.aload_n 0, 1) := by decide +kernel
theorem dX7_days_55 : decode cX7_days 55 = .ok (.iload 5, 2) := by decide +kernel
theorem dX7_days_57 : decode cX7_days 57 = .ok (.ifCond .ne 7, 3) := by decide +kernel
theorem dX7_days_60 : decode cX7_days 60 = .ok (.iconst 1, 1) := by decide +kernel
theorem dX7_days_61 : decode cX7_days 61 = .ok (.goto 13, 3) := by decide +kernel
theorem dX7_days_64 : decode cX7_days 64 = .ok (.iload 6, 2) := by decide +kernel
theorem dX7_days_66 : decode cX7_days 66 = .ok (.ifCond .ne 7, 3) := by decide +kernel
theorem dX7_days_69 : decode cX7_days 69 = .ok (.iconst 2, 1) := by decide +kernel
theorem dX7_days_70 : decode cX7_days 70 = .ok (.goto 4, 3) := by decide +kernel
theorem dX7_days_73 : decode cX7_days 73 = .ok (.iconst 0, 1) := by decide +kernel
theorem dX7_days_74 : decode cX7_days 74 = .ok (.invokevirtual 125, 3) := by decide +kernel
theorem dX7_days_77 : decode cX7_days 77 = .ok (.ifCond .ne 5, 3) := by decide +kernel
theorem dX7_days_80 : decode cX7_days 80 = .ok (.iconst 0, 1) := by decide +kernel
theorem dX7_days_81 : decode cX7_days 81 = .ok (.ireturn, 1) := by decide +kernel
theorem dX7_days_82 : decode cX7_days 82 = .ok (.iconst 0, 1) := by decide +kernel
theorem dX7_days_83 : decode cX7_days 83 = .ok (.istore 7, 2) := by decide +kernel
theorem dX7_days_85 : decode cX7_days 85 = .ok (.iload_n 2, 1) := by decide +kernel
theorem dX7_days_86 : decode cX7_days 86 = .ok (.istore 8, 2) := by decide +kernel
theorem dX7_days_88 : decode cX7_days 88 = .ok (.iload 8, 2) := by decide +kernel
theorem dX7_days_90 : decode cX7_days 90 = .ok (.iload_n 3, 1) := by decide +kernel
theorem dX7_days_91 : decode cX7_days 91 = .ok (.if_icmp .gt 31, 3) := by decide +kernel
theorem dX7_days_94 : decode cX7_days 94 = .ok (.iload 7, 2) := by decide +kernel
theorem dX7_days_96 : decode cX7_days 96 = .ok (.aload_n 0, 1) := by decide +kernel
theorem dX7_days_97 : decode cX7_days 97 = .ok (.iload_n 1, 1) := by decide +kernel
theorem dX7_days_98 : decode cX7_days 98 = .ok (.iload 8, 2) := by decide +kernel
theorem dX7_days_100 : decode cX7_days 100 = .ok (.invokevirtual 158, 3) := by decide +kernel
theorem dX7_days_103 : decode cX7_days 103 = .ok (.iload 4, 2) := by decide +kernel
theorem dX7_days_105 : decode cX7_days 105 = .ok (.if_icmp .ne 7, 3) := by decide +kernel
theorem dX7_days_108 : decode cX7_days 108 = .ok (.iconst 1, 1) := by decide +kernel
theorem dX7_days_109 : decode cX7_days 109 = .ok (.goto 4, 3) := by decide +kernel
theorem dX7_days_112 : decode cX7_days 112 = .ok (.iconst 0, 1) := by decide +kernel
theorem dX7_days_113 : decode cX7_days 113 = .ok (.iadd, 1) := by decide +kernel
theorem dX7_days_114 : decode cX7_days 114 = .ok (.istore 7, 2) := by decide +kernel
theorem dX7_days_116 : decode cX7_days 116 = .ok (.iinc 8 1, 3) := by decide +kernel
theorem dX7_days_119 : decode cX7_days 119 = .ok (.goto (-31), 3) := by decide +kernel
theorem dX7_days_122 : decode cX7_days 122 = .ok (.iload 7, 2) := by decide +kernel
theorem dX7_days_124 : decode cX7_days 124 = .ok (.ireturn, 1) := by decide +kernel
theorem dX7_isLeased_0 : decode cX7_isLeased 0 = .ok (.iconst (-1), 1) := by decide +kernel
theorem dX7_isLeased_1 : decode cX7_isLeased 1 = .ok (.istore_n 3, 1) := by decide +kernel
theorem dX7_isLeased_2 : decode cX7_isLeased 2 = .ok (.bipush 10, 2) := by decide +kernel
theorem dX7_isLeased_4 : decode cX7_isLeased 4 = .ok (.iload_n 1, 1) := by decide +kernel
theorem dX7_isLeased_5 : decode cX7_isLeased 5 = .ok (.imul, 1) := by decide +kernel
theorem dX7_isLeased_6 : decode cX7_isLeased 6 = .ok (.istore 4, 2) := by decide +kernel
theorem dX7_isLeased_8 : decode cX7_isLeased 8 = .ok (.iload 4, 2) := by decide +kernel
theorem dX7_isLeased_10 : decode cX7_isLeased 10 = .ok (.bipush 10, 2) := by decide +kernel
theorem dX7_isLeased_12 : decode cX7_isLeased 12 = .ok (.iload_n 1, 1) := by decide +kernel
theorem dX7_isLeased_13 : decode cX7_isLeased 13 = .ok (.imul, 1) := by decide +kernel
theorem dX7_isLeased_14 : decode cX7_isLeased 14 = .ok (.aload_n 0, 1) := by decide +kernel
theorem dX7_isLeased_15 : decode cX7_isLeased 15 = .ok (.getfield 50, 3) := by decide +kernel
theorem dX7_isLeased_18 : decode cX7_isLeased 18 = .ok (.iload_n 1, 1) := by decide +kernel
theorem dX7_isLeased_19 : decode cX7_isLeased 19 = .ok (.iaload, 1) := by decide +kernel
theorem dX7_isLeased_20 : decode cX7_isLeased 20 = .ok (.iadd, 1) := by decide +kernel
theorem dX7_isLeased_21 : decode cX7_isLeased 21 = .ok (.if_icmp .ge 27, 3) := by decide +kernel
theorem dX7_isLeased_24 : decode cX7_isLeased 24 = .ok (.aload_n 0, 1) := by decide +kernel
theorem dX7_isLeased_25 : decode cX7_isLeased 25 = .ok (.getfield 44, 3) := by decide +kernel
theorem dX7_isLeased_28 : decode cX7_isLeased 28 = .ok (.iload 4, 2) := by decide +kernel
theorem dX7_isLeased_30 : decode cX7_isLeased 30 = .ok (.iaload, 1) := by decide +kernel
theorem dX7_isLeased_31 : decode cX7_isLeased 31 = .ok (.iload_n 2, 1) := by decide +kernel
theorem dX7_isLeased_32 : decode cX7_isLeased 32 = .ok (.if_icmp .gt 8, 3) := by decide +kernel
theorem dX7_isLeased_35 : decode cX7_isLeased 35 = .ok (.iload 4, 2) := by decide +kernel
theorem dX7_isLeased_37 : decode cX7_isLeased 37 = .ok (.goto 4, 3) := by decide +kernel
theorem dX7_isLeased_40 : decode cX7_isLeased 40 = .ok (.iload_n 3, 1) := by decide +kernel
theorem dX7_isLeased_41 : decode cX7_isLeased 41 = .ok (.istore_n 3, 1) := by decide +kernel
theorem dX7_isLeased_42 : decode cX7_isLeased 42 = .ok (.iinc 4 1, 3) := by decide +kernel
theorem dX7_isLeased_45 : decode cX7_isLeased 45 = .ok (.goto (-37), 3) := by decide +kernel
theorem dX7_isLeased_48 : decode cX7_isLeased 48 = .ok (.iload_n 3, 1) := by decide +kernel
theorem dX7_isLeased_49 : decode cX7_isLeased 49 = .ok (.iconst (-1), 1) := by decide +kernel
theorem dX7_isLeased_50 : decode cX7_isLeased 50 = .ok (.if_icmp .eq 35, 3) := by decide +kernel
theorem dX7_isLeased_53 : decode cX7_isLeased 53 = .ok (.iload_n 2, 1) := by decide +kernel
theorem dX7_isLeased_54 : decode cX7_isLeased 54 = .ok (.aload_n 0, 1) := by decide +kernel
theorem dX7_isLeased_55 : decode cX7_isLeased 55 = .ok (.getfield 47, 3) := by decide +kernel
theorem dX7_isLeased_58 : decode cX7_isLeased 58 = .ok (.iload_n 3, 1) := by decide +kernel
theorem dX7_isLeased_59 : decode cX7_isLeased 59 = .ok (.iaload, 1) := by decide +kernel
theorem dX7_isLeased_60 : decode cX7_isLeased 60 = .ok (.if_icmp .gt 25, 3) := by decide +kernel
theorem dX7_isLeased_63 : decode cX7_isLeased 63 = .ok (.aload_n 0, 1) := by decide +kernel
theorem dX7_isLeased_64 : decode cX7_isLeased 64 = .ok (.iload_n 1, 1) := by decide +kernel
theorem dX7_isLeased_65 : decode cX7_isLeased 65 = .ok (.invokevirtual 134, 3) := by decide +kernel
theorem dX7_isLeased_68 : decode cX7_isLeased 68 = .ok (.ifCond .eq 13, 3) := by decide +kernel
theorem dX7_isLeased_71 : decode cX7_isLeased 71 = .ok (.iload_n 2, 1) := by decide +kernel
theorem dX7_isLeased_72 : decode cX7_isLeased 72 = .ok (.aload_n 0, 1) := by decide +kernel
theorem dX7_isLeased_73 : decode cX7_isLeased 73 = .ok (.getfield 26, 3) := by decide +kernel
theorem dX7_isLeased_76 : decode cX7_isLeased 76 = .ok (.iload_n 1, 1) := by decide +kernel
theorem dX7_isLeased_77 : decode cX7_isLeased 77 = .ok (.iaload, 1) := by decide +kernel
theorem dX7_isLeased_78 : decode cX7_isLeased 78 = .ok (.if_icmp .gt 7, 3) := by decide +kernel
theorem dX7_isLeased_81 : decode cX7_isLeased 81 = .ok (.iconst 1, 1) := by decide +kernel
theorem dX7_isLeased_82 : decode cX7_isLeased 82 = .ok (.goto 4, 3) := by decide +kernel
theorem dX7_isLeased_85 : decode cX7_isLeased 85 = .ok (.iconst 0, 1) := by decide +kernel
theorem dX7_isLeased_86 : decode cX7_isLeased 86 = .ok (.ireturn, 1) := by decide +kernel
theorem dX7_lease_0 : decode cX7_lease 0 = .ok (.aload_n 0, 1) := by decide +kernel
theorem dX7_lease_1 : decode cX7_lease 1 = .ok (.iload_n 1, 1) := by decide +kernel
theorem dX7_lease_2 : decode cX7_lease 2 = .ok (.invokevirtual 131, 3) := by decide +kernel
theorem dX7_lease_5 : decode cX7_lease 5 = .ok (.istore 4, 2) := by decide +kernel
theorem dX7_lease_7 : decode cX7_lease 7 = .ok (.aload_n 0, 1) := by decide +kernel
theorem dX7_lease_8 : decode cX7_lease 8 = .ok (.iload 4, 2) := by decide +kernel
theorem dX7_lease_10 : decode cX7_lease 10 = .ok (.ifCond .ne 7, 3) := by decide +kernel
theorem dX7_lease_13 : decode cX7_lease 13 = .ok (.iconst 1, 1) := by decide +kernel
theorem dX7_lease_14 : decode cX7_lease 14 = .ok (.goto 59, 3) := by decide +kernel
theorem dX7_lease_17 : decode cX7_lease 17 = .ok (.iload_n 2, 1) := by decide +kernel
theorem dX7_lease_18 : decode cX7_lease 18 = .ok (.invokestatic 122, 3) := by decide +kernel
theorem dX7_lease_21 : decode cX7_lease 21 = .ok (.ifCond .eq 14, 3) := by decide +kernel
theorem dX7_lease_24 : decode cX7_lease 24 = .ok (.iload_n 3, 1) := by decide +kernel
theorem dX7_lease_25 : decode cX7_lease 25 = .ok (.iload_n 2, 1) := by decide +kernel
theorem dX7_lease_26 : decode cX7_lease 26 = .ok (.sipush 9999, 3) := by decide +kernel
theorem dX7_lease_29 : decode cX7_lease 29 = .ok (.invokestatic 111, 3) := by decide +kernel
theorem dX7_lease_32 : decode cX7_lease 32 = .ok (.ifCond .ne 7, 3) := by decide +kernel
theorem dX7_lease_35 : decode cX7_lease 35 = .ok (.iconst 2, 1) := by decide +kernel
theorem dX7_lease_36 : decode cX7_lease 36 = .ok (.goto 37, 3) := by decide +kernel
theorem dX7_lease_39 : decode cX7_lease 39 = .ok (.aload_n 0, 1) := by decide +kernel
theorem dX7_lease_40 : decode cX7_lease 40 = .ok (.getfield 16, 3) := by decide +kernel
theorem dX7_lease_43 : decode cX7_lease 43 = .ok (.iload_n 1, 1) := by decide +kernel
theorem dX7_lease_44 : decode cX7_lease 44 = .ok (.iaload, 1) := by decide +kernel
theorem dX7_lease_45 : decode cX7_lease 45 = .ok (.iconst (-1), 1) := by decide +kernel
theorem dX7_lease_46 : decode cX7_lease 46 = .ok (.if_icmp .eq 22, 3) := by decide +kernel
theorem dX7_lease_49 : decode cX7_lease 49 = .ok (.aload_n 0, 1) := by decide +kernel
theorem dX7_lease_50 : decode cX7_lease 50 = .ok (.iload_n 1, 1) := by decide +kernel
theorem dX7_lease_51 : decode cX7_lease 51 = .ok (.invokevirtual 134, 3) := by decide +kernel
theorem dX7_lease_54 : decode cX7_lease 54 = .ok (.ifCond .ne 14, 3) := by decide +kernel
theorem dX7_lease_57 : decode cX7_lease 57 = .ok (.aload_n 0, 1) := by decide +kernel
theorem dX7_lease_58 : decode cX7_lease 58 = .ok (.getfield 50, 3) := by decide +kernel
theorem dX7_lease_61 : decode cX7_lease 61 = .ok (.iload_n 1, 1) := by decide +kernel
theorem dX7_lease_62 : decode cX7_lease 62 = .ok (.iaload, 1) := by decide +kernel
theorem dX7_lease_63 : decode cX7_lease 63 = .ok (.bipush 10, 2) := by decide +kernel
theorem dX7_lease_65 : decode cX7_lease 65 = .ok (.if_icmp .ne 7, 3) := by decide +kernel
theorem dX7_lease_68 : decode cX7_lease 68 = .ok (.iconst 3, 1) := by decide +kernel
theorem dX7_lease_69 : decode cX7_lease 69 = .ok (.goto 4, 3) := by decide +kernel
theorem dX7_lease_72 : decode cX7_lease 72 = .ok (.iconst 0, 1) := by decide +kernel
theorem dX7_lease_73 : decode cX7_lease 73 = .ok (.invokevirtual 125, 3) := by decide +kernel
theorem dX7_lease_76 : decode cX7_lease 76 = .ok (.ifCond .eq 47, 3) := by decide +kernel
theorem dX7_lease_79 : decode cX7_lease 79 = .ok (.aload_n 0, 1) := by decide +kernel
theorem dX7_lease_80 : decode cX7_lease 80 = .ok (.getfield 44, 3) := by decide +kernel
theorem dX7_lease_83 : decode cX7_lease 83 = .ok (.bipush 10, 2) := by decide +kernel
theorem dX7_lease_85 : decode cX7_lease 85 = .ok (.iload_n 1, 1) := by decide +kernel
theorem dX7_lease_86 : decode cX7_lease 86 = .ok (.imul, 1) := by decide +kernel
theorem dX7_lease_87 : decode cX7_lease 87 = .ok (.aload_n 0, 1) := by decide +kernel
theorem dX7_lease_88 : decode cX7_lease 88 = .ok (.getfield 50, 3) := by decide +kernel
theorem dX7_lease_91 : decode cX7_lease 91 = .ok (.iload_n 1, 1) := by decide +kernel
theorem dX7_lease_92 : decode cX7_lease 92 = .ok (.iaload, 1) := by decide +kernel
theorem dX7_lease_93 : decode cX7_lease 93 = .ok (.iadd, 1) := by decide +kernel
theorem dX7_lease_94 : decode cX7_lease 94 = .ok (.iload_n 2, 1) := by decide +kernel
theorem dX7_lease_95 : decode cX7_lease 95 = .ok (.iastore, 1) := by decide +kernel
theorem dX7_lease_96 : decode cX7_lease 96 = .ok (.aload_n 0, 1) := by decide +kernel
theorem dX7_lease_97 : decode cX7_lease 97 = .ok (.getfield 47, 3) := by decide +kernel
theorem dX7_lease_100 : decode cX7_lease 100 = .ok (.bipush 10, 2) := by decide +kernel
theorem dX7_lease_102 : decode cX7_lease 102 = .ok (.iload_n 1, 1) := by decide +kernel
theorem dX7_lease_103 : decode cX7_lease 103 = .ok (.imul, 1) := by decide +kernel
theorem dX7_lease_104 : decode cX7_lease 104 = .ok (.aload_n 0, 1) := by decide +kernel
theorem dX7_lease_105 : decode cX7_lease 105 = .ok (.getfield 50, 3) := by decide +kernel
theorem dX7_lease_108 : decode cX7_lease 108 = .ok (.iload_n 1, 1) := by decide +kernel
theorem dX7_lease_109 : decode cX7_lease 109 = .ok (.iaload, 1) := by decide +kernel
theorem dX7_lease_110 : decode cX7_lease 110 = .ok (.iadd, 1) := by decide +kernel
theorem dX7_lease_111 : decode cX7_lease 111 = .ok (.iload_n 3, 1) := by decide +kernel
theorem dX7_lease_112 : decode cX7_lease 112 = .ok (.iastore, 1) := by decide +kernel
theorem dX7_lease_113 : decode cX7_lease 113 = .ok (.aload_n 0, 1) := by decide +kernel
theorem dX7_lease_114 : decode cX7_lease 114 = .ok (.getfield 50, 3) := by decide +kernel
theorem dX7_lease_117 : decode cX7_lease 117 = .ok (.iload_n 1, 1) := by decide +kernel
theorem dX7_lease_118 : decode cX7_lease 118 = .ok (.dup2, 1) := by decide +kernel
theorem dX7_lease_119 : decode cX7_lease 119 = .ok (.iaload, 1) := by decide +kernel
theorem dX7_lease_120 : decode cX7_lease 120 = .ok (.iconst 1, 1) := by decide +kernel
theorem dX7_lease_121 : decode cX7_lease 121 = .ok (.iadd, 1) := by decide +kernel
theorem dX7_lease_122 : decode cX7_lease 122 = .ok (.iastore, 1) := by decide +kernel
theorem dX7_lease_123 : decode cX7_lease 123 = .ok (.return_, 1) := by decide +kernel
theorem dX7_free_0 : decode cX7_free 0 = .ok (.aload_n 0, 1) := by decide +kernel
theorem dX7_free_1 : decode cX7_free 1 = .ok (.iload_n 1, 1) := by decide +kernel
theorem dX7_free_2 : decode cX7_free 2 = .ok (.iconst 0, 1) := by decide +kernel
theorem dX7_free_3 : decode cX7_free 3 = .ok (.bipush 30, 2) := by decide +kernel
theorem dX7_free_5 : decode cX7_free 5 = .ok (.invokestatic 111, 3) := by decide +kernel
theorem dX7_free_8 : decode cX7_free 8 = .ok (.ifCond .eq 7, 3) := by decide +kernel
theorem dX7_free_11 : decode cX7_free 11 = .ok (.iconst 0, 1) := by decide +kernel
theorem dX7_free_12 : decode cX7_free 12 = .ok (.goto 4, 3) := by decide +kernel
theorem dX7_free_15 : decode cX7_free 15 = .ok (.iconst 1, 1) := by decide +kernel
theorem dX7_free_16 : decode cX7_free 16 = .ok (.invokevirtual 125, 3) := by decide +kernel
theorem dX7_free_19 : decode cX7_free 19 = .ok (.ifCond .ne 5, 3) := by decide +kernel
theorem dX7_free_22 : decode cX7_free 22 = .ok (.iconst 0, 1) := by decide +kernel
theorem dX7_free_23 : decode cX7_free 23 = .ok (.ireturn, 1) := by decide +kernel
theorem dX7_free_24 : decode cX7_free 24 = .ok (.aload_n 0, 1) := by decide +kernel
theorem dX7_free_25 : decode cX7_free 25 = .ok (.getfield 53, 3) := by decide +kernel
theorem dX7_free_28 : decode cX7_free 28 = .ok (.istore_n 2, 1) := by decide +kernel
theorem dX7_free_29 : decode cX7_free 29 = .ok (.aload_n 0, 1) := by decide +kernel
theorem dX7_free_30 : decode cX7_free 30 = .ok (.iload_n 1, 1) := by decide +kernel
theorem dX7_free_31 : decode cX7_free 31 = .ok (.putfield 53, 3) := by decide +kernel
theorem dX7_free_34 : decode cX7_free 34 = .ok (.iload_n 2, 1) := by decide +kernel
theorem dX7_free_35 : decode cX7_free 35 = .ok (.ireturn, 1) := by decide +kernel
theorem dX7_isCustomers_0 : decode cX7_isCustomers 0 = .ok (.iload_n 2, 1) := by decide +kernel
theorem dX7_isCustomers_1 : decode cX7_isCustomers 1 = .ok (.aload_n 0, 1) := by decide +kernel
theorem dX7_isCustomers_2 : decode cX7_isCustomers 2 = .ok (.getfield 53, 3) := by decide +kernel
theorem dX7_isCustomers_5 : decode cX7_isCustomers 5 = .ok (.if_icmp .lt 7, 3) := by decide +kernel
theorem dX7_isCustomers_8 : decode cX7_isCustomers 8 = .ok (.iconst 1, 1) := by decide +kernel
theorem dX7_isCustomers_9 : decode cX7_isCustomers 9 = .ok (.goto 4, 3) := by decide +kernel
theorem dX7_isCustomers_12 : decode cX7_isCustomers 12 = .ok (.iconst 0, 1) := by decide +kernel
theorem dX7_isCustomers_13 : decode cX7_isCustomers 13 = .ok (.istore_n 3, 1) := by decide +kernel
theorem dX7_isCustomers_14 : decode cX7_isCustomers 14 = .ok (.iload_n 2, 1) := by decide +kernel
theorem dX7_isCustomers_15 : decode cX7_isCustomers 15 = .ok (.aload_n 0, 1) := by decide +kernel
theorem dX7_isCustomers_16 : decode cX7_isCustomers 16 = .ok (.getfield 53, 3) := by decide +kernel
theorem dX7_isCustomers_19 : decode cX7_isCustomers 19 = .ok (.isub, 1) := by decide +kernel
theorem dX7_isCustomers_20 : decode cX7_isCustomers 20 = .ok (.istore 4, 2) := by decide +kernel
theorem dX7_isCustomers_22 : decode cX7_isCustomers 22 = .ok (.iload 4, 2) := by decide +kernel
theorem dX7_isCustomers_24 : decode cX7_isCustomers 24 = .ok (.iload_n 2, 1) := by decide +kernel
theorem dX7_isCustomers_25 : decode cX7_isCustomers 25 = .ok (.if_icmp .gt 31, 3) := by decide +kernel
theorem dX7_isCustomers_28 : decode cX7_isCustomers 28 = .ok (.iload_n 3, 1) := by decide +kernel
theorem dX7_isCustomers_29 : decode cX7_isCustomers 29 = .ok (.ifCond .eq 27, 3) := by decide +kernel
theorem dX7_isCustomers_32 : decode cX7_isCustomers 32 = .ok (.aload_n 0, 1) := by decide +kernel
theorem dX7_isCustomers_33 : decode cX7_isCustomers 33 = .ok (.iload_n 1, 1) := by decide +kernel
theorem dX7_isCustomers_34 : decode cX7_isCustomers 34 = .ok (.iload 4, 2) := by decide +kernel
theorem dX7_isCustomers_36 : decode cX7_isCustomers 36 = .ok (.invokevirtual 158, 3) := by decide +kernel
theorem dX7_isCustomers_39 : decode cX7_isCustomers 39 = .ok (.bipush 11, 2) := by decide +kernel
theorem dX7_isCustomers_41 : decode cX7_isCustomers 41 = .ok (.if_icmp .ne 7, 3) := by decide +kernel
theorem dX7_isCustomers_44 : decode cX7_isCustomers 44 = .ok (.iconst 1, 1) := by decide +kernel
theorem dX7_isCustomers_45 : decode cX7_isCustomers 45 = .ok (.goto 4, 3) := by decide +kernel
theorem dX7_isCustomers_48 : decode cX7_isCustomers 48 = .ok (.iconst 0, 1) := by decide +kernel
theorem dX7_isCustomers_49 : decode cX7_isCustomers 49 = .ok (.istore_n 3, 1) := by decide +kernel
theorem dX7_isCustomers_50 : decode cX7_isCustomers 50 = .ok (.iinc 4 1, 3) := by decide +kernel
theorem dX7_isCustomers_53 : decode cX7_isCustomers 53 = .ok (.goto (-31), 3) := by decide +kernel
theorem dX7_isCustomers_56 : decode cX7_isCustomers 56 = .ok (.iload_n 3, 1) := by decide +kernel
theorem dX7_isCustomers_57 : decode cX7_isCustomers 57 = .ok (.ireturn, 1) := by decide +kernel
theorem dX7_pays_0 : decode cX7_pays 0 = .ok (.aload_n 0, 1) := by decide +kernel
theorem dX7_pays_1 : decode cX7_pays 1 = .ok (.iload_n 1, 1) := by decide +kernel
theorem dX7_pays_2 : decode cX7_pays 2 = .ok (.iload_n 2, 1) := by decide +kernel
theorem dX7_pays_3 : decode cX7_pays 3 = .ok (.invokevirtual 161, 3) := by decide +kernel
theorem dX7_pays_6 : decode cX7_pays 6 = .ok (.ifCond .eq 7, 3) := by decide +kernel
theorem dX7_pays_9 : decode cX7_pays 9 = .ok (.iconst 2, 1) := by decide +kernel
theorem dX7_pays_10 : decode cX7_pays 10 = .ok (.goto 27, 3) := by decide +kernel
theorem dX7_pays_13 : decode cX7_pays 13 = .ok (.aload_n 0, 1) := by decide +kernel
theorem dX7_pays_14 : decode cX7_pays 14 = .ok (.getfield 16, 3) := by decide +kernel
theorem dX7_pays_17 : decode cX7_pays 17 = .ok (.iload_n 1, 1) := by decide +kernel
theorem dX7_pays_18 : decode cX7_pays 18 = .ok (.iaload, 1) := by decide +kernel
theorem dX7_pays_19 : decode cX7_pays 19 = .ok (.iconst (-1), 1) := by decide +kernel
theorem dX7_pays_20 : decode cX7_pays 20 = .ok (.if_icmp .eq 12, 3) := by decide +kernel
theorem dX7_pays_23 : decode cX7_pays 23 = .ok (.aload_n 0, 1) := by decide +kernel
theorem dX7_pays_24 : decode cX7_pays 24 = .ok (.iload_n 1, 1) := by decide +kernel
theorem dX7_pays_25 : decode cX7_pays 25 = .ok (.iload_n 2, 1) := by decide +kernel
theorem dX7_pays_26 : decode cX7_pays 26 = .ok (.invokevirtual 165, 3) := by decide +kernel
theorem dX7_pays_29 : decode cX7_pays 29 = .ok (.ifCond .eq 7, 3) := by decide +kernel
theorem dX7_pays_32 : decode cX7_pays 32 = .ok (.iconst 0, 1) := by decide +kernel
theorem dX7_pays_33 : decode cX7_pays 33 = .ok (.goto 4, 3) := by decide +kernel
theorem dX7_pays_36 : decode cX7_pays 36 = .ok (.iconst 1, 1) := by decide +kernel
theorem dX7_pays_37 : decode cX7_pays 37 = .ok (.ireturn, 1) := by decide +kernel
theorem dX7_payer_0 : decode cX7_payer 0 = .ok (.aload_n 0, 1) := by decide +kernel
theorem dX7_payer_1 : decode cX7_payer 1 = .ok (.iload_n 1, 1) := by decide +kernel
theorem dX7_payer_2 : decode cX7_payer 2 = .ok (.invokevirtual 131, 3) := by decide +kernel
theorem dX7_payer_5 : decode cX7_payer 5 = .ok (.istore_n 3, 1) := by decide +kernel
theorem dX7_payer_6 : decode cX7_payer 6 = .ok (.aload_n 0, 1) := by decide +kernel
theorem dX7_payer_7 : decode cX7_payer 7 = .ok (.iload_n 3, 1) := by decide +kernel
theorem dX7_payer_8 : decode cX7_payer 8 = .ok (.ifCond .ne 7, 3) := by decide +kernel
theorem dX7_payer_11 : decode cX7_payer 11 = .ok (.iconst 1, 1) := by decide +kernel
theorem dX7_payer_12 : decode cX7_payer 12 = .ok (.goto 15, 3) := by decide +kernel
theorem dX7_payer_15 : decode cX7_payer 15 = .ok (.iload_n 2, 1) := by decide +kernel
theorem dX7_payer_16 : decode cX7_payer 16 = .ok (.invokestatic 122, 3) := by decide +kernel
theorem dX7_payer_19 : decode cX7_payer 19 = .ok (.ifCond .ne 7, 3) := by decide +kernel
theorem dX7_payer_22 : decode cX7_payer 22 = .ok (.iconst 2, 1) := by decide +kernel
theorem dX7_payer_23 : decode cX7_payer 23 = .ok (.goto 4, 3) := by decide +kernel
theorem dX7_payer_26 : decode cX7_payer 26 = .ok (.iconst 0, 1) := by decide +kernel
theorem dX7_payer_27 : decode cX7_payer 27 = .ok (.invokevirtual 125, 3) := by decide +kernel
theorem dX7_payer_30 : decode cX7_payer 30 = .ok (.ifCond .eq 12, 3) := by decide +kernel
theorem dX7_payer_33 : decode cX7_payer 33 = .ok (.aload_n 0, 1) := by decide +kernel
theorem dX7_payer_34 : decode cX7_payer 34 = .ok (.iload_n 1, 1) := by decide +kernel
theorem dX7_payer_35 : decode cX7_payer 35 = .ok (.iload_n 2, 1) := by decide +kernel
theorem dX7_payer_36 : decode cX7_payer 36 = .ok (.invokevirtual 168, 3) := by decide +kernel
theorem dX7_payer_39 : decode cX7_payer 39 = .ok (.goto 4, 3) := by decide +kernel
theorem dX7_payer_42 : decode cX7_payer 42 = .ok (.iconst 0, 1) := by decide +kernel
theorem dX7_payer_43 : decode cX7_payer 43 = .ok (.ireturn, 1) := by decide +kernel
theorem dX7_quota_0 : decode cX7_quota 0 = .ok (.iload_n 1, 1) := by decide +kernel
theorem dX7_quota_1 : decode cX7_quota 1 = .ok (.iconst 0, 1) := by decide +kernel
theorem dX7_quota_2 : decode cX7_quota 2 = .ok (.iconst 2, 1) := by decide +kernel
theorem dX7_quota_3 : decode cX7_quota 3 = .ok (.invokestatic 111, 3) := by decide +kernel
theorem dX7_quota_6 : decode cX7_quota 6 = .ok (.ifCond .eq 14, 3) := by decide +kernel
theorem dX7_quota_9 : decode cX7_quota 9 = .ok (.iload_n 2, 1) := by decide +kernel
theorem dX7_quota_10 : decode cX7_quota 10 = .ok (.invokestatic 118, 3) := by decide +kernel
theorem dX7_quota_13 : decode cX7_quota 13 = .ok (.ifCond .eq 7, 3) := by decide +kernel
theorem dX7_quota_16 : decode cX7_quota 16 = .ok (.iconst 1, 1) := by decide +kernel
theorem dX7_quota_17 : decode cX7_quota 17 = .ok (.goto 4, 3) := by decide +kernel
theorem dX7_quota_20 : decode cX7_quota 20 = .ok (.iconst 0, 1) := by decide +kernel
theorem dX7_quota_21 : decode cX7_quota 21 = .ok (.istore 4, 2) := by decide +kernel
theorem dX7_quota_23 : decode cX7_quota 23 = .ok (.aload_n 0, 1) := by decide +kernel
theorem dX7_quota_24 : decode cX7_quota 24 = .ok (.iload 4, 2) := by decide +kernel
theorem dX7_quota_26 : decode cX7_quota 26 = .ok (.ifCond .ne 7, 3) := by decide +kernel
theorem dX7_quota_29 : decode cX7_quota 29 = .ok (.iconst 1, 1) := by decide +kernel
theorem dX7_quota_30 : decode cX7_quota 30 = .ok (.goto 18, 3) := by decide +kernel
theorem dX7_quota_33 : decode cX7_quota 33 = .ok (.iload_n 3, 1) := by decide +kernel
theorem dX7_quota_34 : decode cX7_quota 34 = .ok (.iconst 0, 1) := by decide +kernel
theorem dX7_quota_35 : decode cX7_quota 35 = .ok (.bipush 9, 2) := by decide +kernel
theorem dX7_quota_37 : decode cX7_quota 37 = .ok (.invokestatic 111, 3) := by decide +kernel
theorem dX7_quota_40 : decode cX7_quota 40 = .ok (.ifCond .ne 7, 3) := by decide +kernel
theorem dX7_quota_43 : decode cX7_quota 43 = .ok (.iconst 2, 1) := by decide +kernel
theorem dX7_quota_44 : decode cX7_quota 44 = .ok (.goto 4, 3) := by decide +kernel
theorem dX7_quota_47 : decode cX7_quota 47 = .ok (.iconst 0, 1) := by decide +kernel
theorem dX7_quota_48 : decode cX7_quota 48 = .ok (.invokevirtual 125, 3) := by decide +kernel
theorem dX7_quota_51 : decode cX7_quota 51 = .ok (.ifCond .ne 5, 3) := by decide +kernel
theorem dX7_quota_54 : decode cX7_quota 54 = .ok (.iconst 0, 1) := by decide +kernel
theorem dX7_quota_55 : decode cX7_quota 55 = .ok (.ireturn, 1) := by decide +kernel
theorem dX7_quota_56 : decode cX7_quota 56 = .ok (.aload_n 0, 1) := by decide +kernel
theorem dX7_quota_57 : decode cX7_quota 57 = .ok (.getfield 57, 3) := by decide +kernel
theorem dX7_quota_60 : decode cX7_quota 60 = .ok (.bipush 6, 2) := by decide +kernel
theorem dX7_quota_62 : decode cX7_quota 62 = .ok (.iload_n 1, 1) := by decide +kernel
theorem dX7_quota_63 : decode cX7_quota 63 = .ok (.imul, 1) := by decide +kernel
theorem dX7_quota_64 : decode cX7_quota 64 = .ok (.iload_n 2, 1) := by decide +kernel
theorem dX7_quota_65 : decode cX7_quota 65 = .ok (.iadd, 1) := by decide +kernel
theorem dX7_quota_66 : decode cX7_quota 66 = .ok (.iaload, 1) := by decide +kernel
theorem dX7_quota_67 : decode cX7_quota 67 = .ok (.istore 5, 2) := by decide +kernel
theorem dX7_quota_69 : decode cX7_quota 69 = .ok (.aload_n 0, 1) := by decide +kernel
theorem dX7_quota_70 : decode cX7_quota 70 = .ok (.getfield 57, 3) := by decide +kernel
theorem dX7_quota_73 : decode cX7_quota 73 = .ok (.bipush 6, 2) := by decide +kernel
theorem dX7_quota_75 : decode cX7_quota 75 = .ok (.iload_n 1, 1) := by decide +kernel
theorem dX7_quota_76 : decode cX7_quota 76 = .ok (.imul, 1) := by decide +kernel
theorem dX7_quota_77 : decode cX7_quota 77 = .ok (.iload_n 2, 1) := by decide +kernel
theorem dX7_quota_78 : decode cX7_quota 78 = .ok (.iadd, 1) := by decide +kernel
theorem dX7_quota_79 : decode cX7_quota 79 = .ok (.iload_n 3, 1) := by decide +kernel
theorem dX7_quota_80 : decode cX7_quota 80 = .ok (.iastore, 1) := by decide +kernel
theorem dX7_quota_81 : decode cX7_quota 81 = .ok (.iload 5, 2) := by decide +kernel
theorem dX7_quota_83 : decode cX7_quota 83 = .ok (.ireturn, 1) := by decide +kernel
theorem dX7_more_0 : decode cX7_more 0 = .ok (.aload_n 0, 1) := by decide +kernel
theorem dX7_more_1 : decode cX7_more 1 = .ok (.getfield 57, 3) := by decide +kernel
theorem dX7_more_4 : decode cX7_more 4 = .ok (.iload_n 1, 1) := by decide +kernel
theorem dX7_more_5 : decode cX7_more 5 = .ok (.iaload, 1) := by decide +kernel
theorem dX7_more_6 : decode cX7_more 6 = .ok (.aload_n 0, 1) := by decide +kernel
theorem dX7_more_7 : decode cX7_more 7 = .ok (.getfield 63, 3) := by decide +kernel
theorem dX7_more_10 : decode cX7_more 10 = .ok (.iload_n 1, 1) := by decide +kernel
theorem dX7_more_11 : decode cX7_more 11 = .ok (.iaload, 1) := by decide +kernel
theorem dX7_more_12 : decode cX7_more 12 = .ok (.aload_n 0, 1) := by decide +kernel
theorem dX7_more_13 : decode cX7_more 13 = .ok (.getfield 152, 3) := by decide +kernel
theorem dX7_more_16 : decode cX7_more 16 = .ok (.bipush 30, 2) := by decide +kernel
theorem dX7_more_18 : decode cX7_more 18 = .ok (.idiv, 1) := by decide +kernel
theorem dX7_more_19 : decode cX7_more 19 = .ok (.if_icmp .ne 12, 3) := by decide +kernel
theorem dX7_more_22 : decode cX7_more 22 = .ok (.aload_n 0, 1) := by decide +kernel
theorem dX7_more_23 : decode cX7_more 23 = .ok (.getfield 60, 3) := by decide +kernel
theorem dX7_more_26 : decode cX7_more 26 = .ok (.iload_n 1, 1) := by decide +kernel
theorem dX7_more_27 : decode cX7_more 27 = .ok (.iaload, 1) := by decide +kernel
theorem dX7_more_28 : decode cX7_more 28 = .ok (.goto 4, 3) := by decide +kernel
theorem dX7_more_31 : decode cX7_more 31 = .ok (.iconst 0, 1) := by decide +kernel
theorem dX7_more_32 : decode cX7_more 32 = .ok (.isub, 1) := by decide +kernel
theorem dX7_more_33 : decode cX7_more 33 = .ok (.ireturn, 1) := by decide +kernel
theorem dX7_canHand_0 : decode cX7_canHand 0 = .ok (.aload_n 0, 1) := by decide +kernel
theorem dX7_canHand_1 : decode cX7_canHand 1 = .ok (.iload_n 1, 1) := by decide +kernel
theorem dX7_canHand_2 : decode cX7_canHand 2 = .ok (.aload_n 0, 1) := by decide +kernel
theorem dX7_canHand_3 : decode cX7_canHand 3 = .ok (.getfield 152, 3) := by decide +kernel
theorem dX7_canHand_6 : decode cX7_canHand 6 = .ok (.invokevirtual 158, 3) := by decide +kernel
theorem dX7_canHand_9 : decode cX7_canHand 9 = .ok (.istore_n 2, 1) := by decide +kernel
theorem dX7_canHand_10 : decode cX7_canHand 10 = .ok (.aload_n 0, 1) := by decide +kernel
theorem dX7_canHand_11 : decode cX7_canHand 11 = .ok (.iload_n 1, 1) := by decide +kernel
theorem dX7_canHand_12 : decode cX7_canHand 12 = .ok (.invokevirtual 134, 3) := by decide +kernel
theorem dX7_canHand_15 : decode cX7_canHand 15 = .ok (.ifCond .ne 54, 3) := by decide +kernel
theorem dX7_canHand_18 : decode cX7_canHand 18 = .ok (.aload_n 0, 1) := by decide +kernel
theorem dX7_canHand_19 : decode cX7_canHand 19 = .ok (.iload_n 1, 1) := by decide +kernel
theorem dX7_canHand_20 : decode cX7_canHand 20 = .ok (.aload_n 0, 1) := by decide +kernel
theorem dX7_canHand_21 : decode cX7_canHand 21 = .ok (.getfield 152, 3) := by decide +kernel
theorem dX7_canHand_24 : decode cX7_canHand 24 = .ok (.invokevirtual 165, 3) := by decide +kernel
theorem dX7_canHand_27 : decode cX7_canHand 27 = .ok (.ifCond .eq 42, 3) := by decide +kernel
theorem dX7_canHand_30 : decode cX7_canHand 30 = .ok (.iload_n 2, 1) := by decide +kernel
theorem dX7_canHand_31 : decode cX7_canHand 31 = .ok (.invokestatic 118, 3) := by decide +kernel
theorem dX7_canHand_34 : decode cX7_canHand 34 = .ok (.ifCond .eq 35, 3) := by decide +kernel
theorem dX7_canHand_37 : decode cX7_canHand 37 = .ok (.aload_n 0, 1) := by decide +kernel
theorem dX7_canHand_38 : decode cX7_canHand 38 = .ok (.getfield 29, 3) := by decide +kernel
theorem dX7_canHand_41 : decode cX7_canHand 41 = .ok (.iload_n 1, 1) := by decide +kernel
theorem dX7_canHand_42 : decode cX7_canHand 42 = .ok (.iaload, 1) := by decide +kernel
theorem dX7_canHand_43 : decode cX7_canHand 43 = .ok (.iconst (-1), 1) := by decide +kernel
theorem dX7_canHand_44 : decode cX7_canHand 44 = .ok (.if_icmp .ne 25, 3) := by decide +kernel
theorem dX7_canHand_47 : decode cX7_canHand 47 = .ok (.aload_n 0, 1) := by decide +kernel
theorem dX7_canHand_48 : decode cX7_canHand 48 = .ok (.bipush 6, 2) := by decide +kernel
theorem dX7_canHand_50 : decode cX7_canHand 50 = .ok (.aload_n 0, 1) := by decide +kernel
theorem dX7_canHand_51 : decode cX7_canHand 51 = .ok (.getfield 16, 3) := by decide +kernel
theorem dX7_canHand_54 : decode cX7_canHand 54 = .ok (.iload_n 1, 1) := by decide +kernel
theorem dX7_canHand_55 : decode cX7_canHand 55 = .ok (.iaload, 1) := by decide +kernel
theorem dX7_canHand_56 : decode cX7_canHand 56 = .ok (.imul, 1) := by decide +kernel
theorem dX7_canHand_57 : decode cX7_canHand 57 = .ok (.iload_n 2, 1) := by decide +kernel
theorem dX7_canHand_58 : decode cX7_canHand 58 = .ok (.iadd, 1) := by decide +kernel
theorem dX7_canHand_59 : decode cX7_canHand 59 = .ok (.invokevirtual 171, 3) := by decide +kernel
theorem dX7_canHand_62 : decode cX7_canHand 62 = .ok (.ifCond .le 7, 3) := by decide +kernel
theorem dX7_canHand_65 : decode cX7_canHand 65 = .ok (.iconst 1, 1) := by decide +kernel
theorem dX7_canHand_66 : decode cX7_canHand 66 = .ok (.goto 4, 3) := by decide +kernel
theorem dX7_canHand_69 : decode cX7_canHand 69 = .ok (.iconst 0, 1) := by decide +kernel
theorem dX7_canHand_70 : decode cX7_canHand 70 = .ok (.ireturn, 1) := by decide +kernel
theorem dX7_hands_0 : decode cX7_hands 0 = .ok (.bipush 6, 2) := by decide +kernel
theorem dX7_hands_2 : decode cX7_hands 2 = .ok (.aload_n 0, 1) := by decide +kernel
theorem dX7_hands_3 : decode cX7_hands 3 = .ok (.getfield 16, 3) := by decide +kernel
theorem dX7_hands_6 : decode cX7_hands 6 = .ok (.iload_n 1, 1) := by decide +kernel
theorem dX7_hands_7 : decode cX7_hands 7 = .ok (.iaload, 1) := by decide +kernel
theorem dX7_hands_8 : decode cX7_hands 8 = .ok (.imul, 1) := by decide +kernel
theorem dX7_hands_9 : decode cX7_hands 9 = .ok (.aload_n 0, 1) := by decide +kernel
theorem dX7_hands_10 : decode cX7_hands 10 = .ok (.iload_n 1, 1) := by decide +kernel
theorem dX7_hands_11 : decode cX7_hands 11 = .ok (.aload_n 0, 1) := by decide +kernel
theorem dX7_hands_12 : decode cX7_hands 12 = .ok (.getfield 152, 3) := by decide +kernel
theorem dX7_hands_15 : decode cX7_hands 15 = .ok (.invokevirtual 158, 3) := by decide +kernel
theorem dX7_hands_18 : decode cX7_hands 18 = .ok (.iadd, 1) := by decide +kernel
theorem dX7_hands_19 : decode cX7_hands 19 = .ok (.istore_n 2, 1) := by decide +kernel
theorem dX7_hands_20 : decode cX7_hands 20 = .ok (.aload_n 0, 1) := by decide +kernel
theorem dX7_hands_21 : decode cX7_hands 21 = .ok (.getfield 60, 3) := by decide +kernel
theorem dX7_hands_24 : decode cX7_hands 24 = .ok (.iload_n 2, 1) := by decide +kernel
theorem dX7_hands_25 : decode cX7_hands 25 = .ok (.aload_n 0, 1) := by decide +kernel
theorem dX7_hands_26 : decode cX7_hands 26 = .ok (.getfield 63, 3) := by decide +kernel
theorem dX7_hands_29 : decode cX7_hands 29 = .ok (.iload_n 2, 1) := by decide +kernel
theorem dX7_hands_30 : decode cX7_hands 30 = .ok (.iaload, 1) := by decide +kernel
theorem dX7_hands_31 : decode cX7_hands 31 = .ok (.aload_n 0, 1) := by decide +kernel
theorem dX7_hands_32 : decode cX7_hands 32 = .ok (.getfield 152, 3) := by decide +kernel
theorem dX7_hands_35 : decode cX7_hands 35 = .ok (.bipush 30, 2) := by decide +kernel
theorem dX7_hands_37 : decode cX7_hands 37 = .ok (.idiv, 1) := by decide +kernel
theorem dX7_hands_38 : decode cX7_hands 38 = .ok (.if_icmp .ne 14, 3) := by decide +kernel
theorem dX7_hands_41 : decode cX7_hands 41 = .ok (.aload_n 0, 1) := by decide +kernel
theorem dX7_hands_42 : decode cX7_hands 42 = .ok (.getfield 60, 3) := by decide +kernel
theorem dX7_hands_45 : decode cX7_hands 45 = .ok (.iload_n 2, 1) := by decide +kernel
theorem dX7_hands_46 : decode cX7_hands 46 = .ok (.iaload, 1) := by decide +kernel
theorem dX7_hands_47 : decode cX7_hands 47 = .ok (.iconst 1, 1) := by decide +kernel
theorem dX7_hands_48 : decode cX7_hands 48 = .ok (.iadd, 1) := by decide +kernel
theorem dX7_hands_49 : decode cX7_hands 49 = .ok (.goto 4, 3) := by decide +kernel
theorem dX7_hands_52 : decode cX7_hands 52 = .ok (.iconst 1, 1) := by decide +kernel
theorem dX7_hands_53 : decode cX7_hands 53 = .ok (.iastore, 1) := by decide +kernel
theorem dX7_hands_54 : decode cX7_hands 54 = .ok (.aload_n 0, 1) := by decide +kernel
theorem dX7_hands_55 : decode cX7_hands 55 = .ok (.getfield 63, 3) := by decide +kernel
theorem dX7_hands_58 : decode cX7_hands 58 = .ok (.iload_n 2, 1) := by decide +kernel
theorem dX7_hands_59 : decode cX7_hands 59 = .ok (.aload_n 0, 1) := by decide +kernel
theorem dX7_hands_60 : decode cX7_hands 60 = .ok (.getfield 152, 3) := by decide +kernel
theorem dX7_hands_63 : decode cX7_hands 63 = .ok (.bipush 30, 2) := by decide +kernel
theorem dX7_hands_65 : decode cX7_hands 65 = .ok (.idiv, 1) := by decide +kernel
theorem dX7_hands_66 : decode cX7_hands 66 = .ok (.iastore, 1) := by decide +kernel
theorem dX7_hands_67 : decode cX7_hands 67 = .ok (.aload_n 0, 1) := by decide +kernel
theorem dX7_hands_68 : decode cX7_hands 68 = .ok (.getfield 26, 3) := by decide +kernel
theorem dX7_hands_71 : decode cX7_hands 71 = .ok (.iload_n 1, 1) := by decide +kernel
theorem dX7_hands_72 : decode cX7_hands 72 = .ok (.aload_n 0, 1) := by decide +kernel
theorem dX7_hands_73 : decode cX7_hands 73 = .ok (.getfield 152, 3) := by decide +kernel
theorem dX7_hands_76 : decode cX7_hands 76 = .ok (.iastore, 1) := by decide +kernel
theorem dX7_hands_77 : decode cX7_hands 77 = .ok (.aload_n 0, 1) := by decide +kernel
theorem dX7_hands_78 : decode cX7_hands 78 = .ok (.iload_n 2, 1) := by decide +kernel
theorem dX7_hands_79 : decode cX7_hands 79 = .ok (.invokevirtual 171, 3) := by decide +kernel
theorem dX7_hands_82 : decode cX7_hands 82 = .ok (.ireturn, 1) := by decide +kernel
theorem dX7_handIn_0 : decode cX7_handIn 0 = .ok (.aload_n 0, 1) := by decide +kernel
theorem dX7_handIn_1 : decode cX7_handIn 1 = .ok (.iload_n 1, 1) := by decide +kernel
theorem dX7_handIn_2 : decode cX7_handIn 2 = .ok (.invokevirtual 131, 3) := by decide +kernel
theorem dX7_handIn_5 : decode cX7_handIn 5 = .ok (.istore_n 2, 1) := by decide +kernel
theorem dX7_handIn_6 : decode cX7_handIn 6 = .ok (.aload_n 0, 1) := by decide +kernel
theorem dX7_handIn_7 : decode cX7_handIn 7 = .ok (.iload_n 2, 1) := by decide +kernel
theorem dX7_handIn_8 : decode cX7_handIn 8 = .ok (.ifCond .ne 7, 3) := by decide +kernel
theorem dX7_handIn_11 : decode cX7_handIn 11 = .ok (.iconst 1, 1) := by decide +kernel
theorem dX7_handIn_12 : decode cX7_handIn 12 = .ok (.goto 16, 3) := by decide +kernel
theorem dX7_handIn_15 : decode cX7_handIn 15 = .ok (.aload_n 0, 1) := by decide +kernel
theorem dX7_handIn_16 : decode cX7_handIn 16 = .ok (.iload_n 1, 1) := by decide +kernel
theorem dX7_handIn_17 : decode cX7_handIn 17 = .ok (.invokevirtual 174, 3) := by decide +kernel
theorem dX7_handIn_20 : decode cX7_handIn 20 = .ok (.ifCond .ne 7, 3) := by decide +kernel
theorem dX7_handIn_23 : decode cX7_handIn 23 = .ok (.iconst 2, 1) := by decide +kernel
theorem dX7_handIn_24 : decode cX7_handIn 24 = .ok (.goto 4, 3) := by decide +kernel
theorem dX7_handIn_27 : decode cX7_handIn 27 = .ok (.iconst 0, 1) := by decide +kernel
theorem dX7_handIn_28 : decode cX7_handIn 28 = .ok (.invokevirtual 125, 3) := by decide +kernel
theorem dX7_handIn_31 : decode cX7_handIn 31 = .ok (.ifCond .eq 11, 3) := by decide +kernel
theorem dX7_handIn_34 : decode cX7_handIn 34 = .ok (.aload_n 0, 1) := by decide +kernel
theorem dX7_handIn_35 : decode cX7_handIn 35 = .ok (.iload_n 1, 1) := by decide +kernel
theorem dX7_handIn_36 : decode cX7_handIn 36 = .ok (.invokevirtual 177, 3) := by decide +kernel
theorem dX7_handIn_39 : decode cX7_handIn 39 = .ok (.goto 4, 3) := by decide +kernel
theorem dX7_handIn_42 : decode cX7_handIn 42 = .ok (.iconst 0, 1) := by decide +kernel
theorem dX7_handIn_43 : decode cX7_handIn 43 = .ok (.ireturn, 1) := by decide +kernel
theorem dX7_mending_0 : decode cX7_mending 0 = .ok (.iconst 0, 1) := by decide +kernel
theorem dX7_mending_1 : decode cX7_mending 1 = .ok (.istore_n 2, 1) := by decide +kernel
theorem dX7_mending_2 : decode cX7_mending 2 = .ok (.bipush 12, 2) := by decide +kernel
theorem dX7_mending_4 : decode cX7_mending 4 = .ok (.iload_n 1, 1) := by decide +kernel
theorem dX7_mending_5 : decode cX7_mending 5 = .ok (.imul, 1) := by decide +kernel
theorem dX7_mending_6 : decode cX7_mending 6 = .ok (.istore_n 3, 1) := by decide +kernel
theorem dX7_mending_7 : decode cX7_mending 7 = .ok (.iload_n 3, 1) := by decide +kernel
theorem dX7_mending_8 : decode cX7_mending 8 = .ok (.bipush 12, 2) := by decide +kernel
theorem dX7_mending_10 : decode cX7_mending 10 = .ok (.iload_n 1, 1) := by decide +kernel
theorem dX7_mending_11 : decode cX7_mending 11 = .ok (.imul, 1) := by decide +kernel
theorem dX7_mending_12 : decode cX7_mending 12 = .ok (.aload_n 0, 1) := by decide +kernel
theorem dX7_mending_13 : decode cX7_mending 13 = .ok (.getfield 72, 3) := by decide +kernel
theorem dX7_mending_16 : decode cX7_mending 16 = .ok (.iload_n 1, 1) := by decide +kernel
theorem dX7_mending_17 : decode cX7_mending 17 = .ok (.iaload, 1) := by decide +kernel
theorem dX7_mending_18 : decode cX7_mending 18 = .ok (.iadd, 1) := by decide +kernel
theorem dX7_mending_19 : decode cX7_mending 19 = .ok (.if_icmp .ge 54, 3) := by decide +kernel
theorem dX7_mending_22 : decode cX7_mending 22 = .ok (.iload_n 2, 1) := by decide +kernel
theorem dX7_mending_23 : decode cX7_mending 23 = .ok (.aload_n 0, 1) := by decide +kernel
theorem dX7_mending_24 : decode cX7_mending 24 = .ok (.getfield 69, 3) := by decide +kernel
theorem dX7_mending_27 : decode cX7_mending 27 = .ok (.iload_n 3, 1) := by decide +kernel
theorem dX7_mending_28 : decode cX7_mending 28 = .ok (.iaload, 1) := by decide +kernel
theorem dX7_mending_29 : decode cX7_mending 29 = .ok (.aload_n 0, 1) := by decide +kernel
theorem dX7_mending_30 : decode cX7_mending 30 = .ok (.getfield 75, 3) := by decide +kernel
theorem dX7_mending_33 : decode cX7_mending 33 = .ok (.aload_n 0, 1) := by decide +kernel
theorem dX7_mending_34 : decode cX7_mending 34 = .ok (.getfield 66, 3) := by decide +kernel
theorem dX7_mending_37 : decode cX7_mending 37 = .ok (.iload_n 3, 1) := by decide +kernel
theorem dX7_mending_38 : decode cX7_mending 38 = .ok (.iaload, 1) := by decide +kernel
theorem dX7_mending_39 : decode cX7_mending 39 = .ok (.iaload, 1) := by decide +kernel
theorem dX7_mending_40 : decode cX7_mending 40 = .ok (.if_icmp .le 24, 3) := by decide +kernel
theorem dX7_mending_43 : decode cX7_mending 43 = .ok (.bipush 10, 2) := by decide +kernel
theorem dX7_mending_45 : decode cX7_mending 45 = .ok (.aload_n 0, 1) := by decide +kernel
theorem dX7_mending_46 : decode cX7_mending 46 = .ok (.getfield 66, 3) := by decide +kernel
theorem dX7_mending_49 : decode cX7_mending 49 = .ok (.iload_n 3, 1) := by decide +kernel
theorem dX7_mending_50 : decode cX7_mending 50 = .ok (.iaload, 1) := by decide +kernel
theorem dX7_mending_51 : decode cX7_mending 51 = .ok (.iconst 1, 1) := by decide +kernel
theorem dX7_mending_52 : decode cX7_mending 52 = .ok (.iadd, 1) := by decide +kernel
theorem dX7_mending_53 : decode cX7_mending 53 = .ok (.imul, 1) := by decide +kernel
theorem dX7_mending_54 : decode cX7_mending 54 = .ok (.aload_n 0, 1) := by decide +kernel
theorem dX7_mending_55 : decode cX7_mending 55 = .ok (.getfield 69, 3) := by decide +kernel
theorem dX7_mending_58 : decode cX7_mending 58 = .ok (.iload_n 3, 1) := by decide +kernel
theorem dX7_mending_59 : decode cX7_mending 59 = .ok (.iaload, 1) := by decide +kernel
theorem dX7_mending_60 : decode cX7_mending 60 = .ok (.imul, 1) := by decide +kernel
theorem dX7_mending_61 : decode cX7_mending 61 = .ok (.goto 4, 3) := by decide +kernel
theorem dX7_mending_64 : decode cX7_mending 64 = .ok (.iconst 0, 1) := by decide +kernel
theorem dX7_mending_65 : decode cX7_mending 65 = .ok (.iadd, 1) := by decide +kernel
theorem dX7_mending_66 : decode cX7_mending 66 = .ok (.istore_n 2, 1) := by decide +kernel
theorem dX7_mending_67 : decode cX7_mending 67 = .ok (.iinc 3 1, 3) := by decide +kernel
theorem dX7_mending_70 : decode cX7_mending 70 = .ok (.goto (-63), 3) := by decide +kernel
theorem dX7_mending_73 : decode cX7_mending 73 = .ok (.iload_n 2, 1) := by decide +kernel
theorem dX7_mending_74 : decode cX7_mending 74 = .ok (.ireturn, 1) := by decide +kernel
theorem dX7_isCode_0 : decode cX7_isCode 0 = .ok (.iload_n 0, 1) := by decide +kernel
theorem dX7_isCode_1 : decode cX7_isCode 1 = .ok (.iconst 0, 1) := by decide +kernel
theorem dX7_isCode_2 : decode cX7_isCode 2 = .ok (.iconst 4, 1) := by decide +kernel
theorem dX7_isCode_3 : decode cX7_isCode 3 = .ok (.invokestatic 111, 3) := by decide +kernel
theorem dX7_isCode_6 : decode cX7_isCode 6 = .ok (.ireturn, 1) := by decide +kernel
theorem dX7_damage_0 : decode cX7_damage 0 = .ok (.aload_n 0, 1) := by decide +kernel
theorem dX7_damage_1 : decode cX7_damage 1 = .ok (.iload_n 1, 1) := by decide +kernel
theorem dX7_damage_2 : decode cX7_damage 2 = .ok (.invokevirtual 131, 3) := by decide +kernel
theorem dX7_damage_5 : decode cX7_damage 5 = .ok (.ifCond .eq 14, 3) := by decide +kernel
theorem dX7_damage_8 : decode cX7_damage 8 = .ok (.iload_n 2, 1) := by decide +kernel
theorem dX7_damage_9 : decode cX7_damage 9 = .ok (.invokestatic 180, 3) := by decide +kernel
theorem dX7_damage_12 : decode cX7_damage 12 = .ok (.ifCond .eq 7, 3) := by decide +kernel
theorem dX7_damage_15 : decode cX7_damage 15 = .ok (.iconst 1, 1) := by decide +kernel
theorem dX7_damage_16 : decode cX7_damage 16 = .ok (.goto 4, 3) := by decide +kernel
theorem dX7_damage_19 : decode cX7_damage 19 = .ok (.iconst 0, 1) := by decide +kernel
theorem dX7_damage_20 : decode cX7_damage 20 = .ok (.istore 4, 2) := by decide +kernel
theorem dX7_damage_22 : decode cX7_damage 22 = .ok (.aload_n 0, 1) := by decide +kernel
theorem dX7_damage_23 : decode cX7_damage 23 = .ok (.iload 4, 2) := by decide +kernel
theorem dX7_damage_25 : decode cX7_damage 25 = .ok (.ifCond .ne 7, 3) := by decide +kernel
theorem dX7_damage_28 : decode cX7_damage 28 = .ok (.iconst 1, 1) := by decide +kernel
theorem dX7_damage_29 : decode cX7_damage 29 = .ok (.goto 41, 3) := by decide +kernel
theorem dX7_damage_32 : decode cX7_damage 32 = .ok (.iload_n 3, 1) := by decide +kernel
theorem dX7_damage_33 : decode cX7_damage 33 = .ok (.iconst 1, 1) := by decide +kernel
theorem dX7_damage_34 : decode cX7_damage 34 = .ok (.bipush 20, 2) := by decide +kernel
theorem dX7_damage_36 : decode cX7_damage 36 = .ok (.invokestatic 111, 3) := by decide +kernel
theorem dX7_damage_39 : decode cX7_damage 39 = .ok (.ifCond .ne 7, 3) := by decide +kernel
theorem dX7_damage_42 : decode cX7_damage 42 = .ok (.iconst 2, 1) := by decide +kernel
theorem dX7_damage_43 : decode cX7_damage 43 = .ok (.goto 27, 3) := by decide +kernel
theorem dX7_damage_46 : decode cX7_damage 46 = .ok (.aload_n 0, 1) := by decide +kernel
theorem dX7_damage_47 : decode cX7_damage 47 = .ok (.iload_n 1, 1) := by decide +kernel
theorem dX7_damage_48 : decode cX7_damage 48 = .ok (.invokevirtual 134, 3) := by decide +kernel
theorem dX7_damage_51 : decode cX7_damage 51 = .ok (.ifCond .ne 14, 3) := by decide +kernel
theorem dX7_damage_54 : decode cX7_damage 54 = .ok (.aload_n 0, 1) := by decide +kernel
theorem dX7_damage_55 : decode cX7_damage 55 = .ok (.getfield 72, 3) := by decide +kernel
theorem dX7_damage_58 : decode cX7_damage 58 = .ok (.iload_n 1, 1) := by decide +kernel
theorem dX7_damage_59 : decode cX7_damage 59 = .ok (.iaload, 1) := by decide +kernel
theorem dX7_damage_60 : decode cX7_damage 60 = .ok (.bipush 12, 2) := by decide +kernel
theorem dX7_damage_62 : decode cX7_damage 62 = .ok (.if_icmp .ne 7, 3) := by decide +kernel
theorem dX7_damage_65 : decode cX7_damage 65 = .ok (.iconst 3, 1) := by decide +kernel
theorem dX7_damage_66 : decode cX7_damage 66 = .ok (.goto 4, 3) := by decide +kernel
theorem dX7_damage_69 : decode cX7_damage 69 = .ok (.iconst 0, 1) := by decide +kernel
theorem dX7_damage_70 : decode cX7_damage 70 = .ok (.invokevirtual 125, 3) := by decide +kernel
theorem dX7_damage_73 : decode cX7_damage 73 = .ok (.ifCond .ne 5, 3) := by decide +kernel
theorem dX7_damage_76 : decode cX7_damage 76 = .ok (.iconst 0, 1) := by decide +kernel
theorem dX7_damage_77 : decode cX7_damage 77 = .ok (.ireturn, 1) := by decide +kernel
theorem dX7_damage_78 : decode cX7_damage 78 = .ok (.aload_n 0, 1) := by decide +kernel
theorem dX7_damage_79 : decode cX7_damage 79 = .ok (.getfield 66, 3) := by decide +kernel
theorem dX7_damage_82 : decode cX7_damage 82 = .ok (.bipush 12, 2) := by decide +kernel
theorem dX7_damage_84 : decode cX7_damage 84 = .ok (.iload_n 1, 1) := by decide +kernel
theorem dX7_damage_85 : decode cX7_damage 85 = .ok (.imul, 1) := by decide +kernel
theorem dX7_damage_86 : decode cX7_damage 86 = .ok (.aload_n 0, 1) := by decide +kernel
theorem dX7_damage_87 : decode cX7_damage 87 = .ok (.getfield 72, 3) := by decide +kernel
theorem dX7_damage_90 : decode cX7_damage 90 = .ok (.iload_n 1, 1) := by decide +kernel
theorem dX7_damage_91 : decode cX7_damage 91 = .ok (.iaload, 1) := by decide +kernel
theorem dX7_damage_92 : decode cX7_damage 92 = .ok (.iadd, 1) := by decide +kernel
theorem dX7_damage_93 : decode cX7_damage 93 = .ok (.iload_n 2, 1) := by decide +kernel
theorem dX7_damage_94 : decode cX7_damage 94 = .ok (.iastore, 1) := by decide +kernel
theorem dX7_damage_95 : decode cX7_damage 95 = .ok (.aload_n 0, 1) := by decide +kernel
theorem dX7_damage_96 : decode cX7_damage 96 = .ok (.getfield 69, 3) := by decide +kernel
theorem dX7_damage_99 : decode cX7_damage 99 = .ok (.bipush 12, 2) := by decide +kernel
theorem dX7_damage_101 : decode cX7_damage 101 = .ok (.iload_n 1, 1) := by decide +kernel
theorem dX7_damage_102 : decode cX7_damage 102 = .ok (.imul, 1) := by decide +kernel
theorem dX7_damage_103 : decode cX7_damage 103 = .ok (.aload_n 0, 1) := by decide +kernel
theorem dX7_damage_104 : decode cX7_damage 104 = .ok (.getfield 72, 3) := by decide +kernel
theorem dX7_damage_107 : decode cX7_damage 107 = .ok (.iload_n 1, 1) := by decide +kernel
theorem dX7_damage_108 : decode cX7_damage 108 = .ok (.iaload, 1) := by decide +kernel
theorem dX7_damage_109 : decode cX7_damage 109 = .ok (.iadd, 1) := by decide +kernel
theorem dX7_damage_110 : decode cX7_damage 110 = .ok (.iload_n 3, 1) := by decide +kernel
theorem dX7_damage_111 : decode cX7_damage 111 = .ok (.iastore, 1) := by decide +kernel
theorem dX7_damage_112 : decode cX7_damage 112 = .ok (.aload_n 0, 1) := by decide +kernel
theorem dX7_damage_113 : decode cX7_damage 113 = .ok (.getfield 72, 3) := by decide +kernel
theorem dX7_damage_116 : decode cX7_damage 116 = .ok (.iload_n 1, 1) := by decide +kernel
theorem dX7_damage_117 : decode cX7_damage 117 = .ok (.dup2, 1) := by decide +kernel
theorem dX7_damage_118 : decode cX7_damage 118 = .ok (.iaload, 1) := by decide +kernel
theorem dX7_damage_119 : decode cX7_damage 119 = .ok (.iconst 1, 1) := by decide +kernel
theorem dX7_damage_120 : decode cX7_damage 120 = .ok (.iadd, 1) := by decide +kernel
theorem dX7_damage_121 : decode cX7_damage 121 = .ok (.iastore, 1) := by decide +kernel
theorem dX7_damage_122 : decode cX7_damage 122 = .ok (.aload_n 0, 1) := by decide +kernel
theorem dX7_damage_123 : decode cX7_damage 123 = .ok (.iload_n 1, 1) := by decide +kernel
theorem dX7_damage_124 : decode cX7_damage 124 = .ok (.invokevirtual 183, 3) := by decide +kernel
theorem dX7_damage_127 : decode cX7_damage 127 = .ok (.ireturn, 1) := by decide +kernel
theorem dX7_standard_0 : decode cX7_standard 0 = .ok (.aload_n 0, 1) := by decide +kernel
theorem dX7_standard_1 : decode cX7_standard 1 = .ok (.iload_n 1, 1) := by decide +kernel
theorem dX7_standard_2 : decode cX7_standard 2 = .ok (.invokestatic 180, 3) := by decide +kernel
theorem dX7_standard_5 : decode cX7_standard 5 = .ok (.ifCond .ne 7, 3) := by decide +kernel
theorem dX7_standard_8 : decode cX7_standard 8 = .ok (.iconst 1, 1) := by decide +kernel
theorem dX7_standard_9 : decode cX7_standard 9 = .ok (.goto 18, 3) := by decide +kernel
theorem dX7_standard_12 : decode cX7_standard 12 = .ok (.iload_n 2, 1) := by decide +kernel
theorem dX7_standard_13 : decode cX7_standard 13 = .ok (.iconst 0, 1) := by decide +kernel
theorem dX7_standard_14 : decode cX7_standard 14 = .ok (.bipush 20, 2) := by decide +kernel
theorem dX7_standard_16 : decode cX7_standard 16 = .ok (.invokestatic 111, 3) := by decide +kernel
theorem dX7_standard_19 : decode cX7_standard 19 = .ok (.ifCond .ne 7, 3) := by decide +kernel
theorem dX7_standard_22 : decode cX7_standard 22 = .ok (.iconst 2, 1) := by decide +kernel
theorem dX7_standard_23 : decode cX7_standard 23 = .ok (.goto 4, 3) := by decide +kernel
theorem dX7_standard_26 : decode cX7_standard 26 = .ok (.iconst 0, 1) := by decide +kernel
theorem dX7_standard_27 : decode cX7_standard 27 = .ok (.invokevirtual 125, 3) := by decide +kernel
theorem dX7_standard_30 : decode cX7_standard 30 = .ok (.ifCond .ne 5, 3) := by decide +kernel
theorem dX7_standard_33 : decode cX7_standard 33 = .ok (.iconst 0, 1) := by decide +kernel
theorem dX7_standard_34 : decode cX7_standard 34 = .ok (.ireturn, 1) := by decide +kernel
theorem dX7_standard_35 : decode cX7_standard 35 = .ok (.aload_n 0, 1) := by decide +kernel
theorem dX7_standard_36 : decode cX7_standard 36 = .ok (.getfield 75, 3) := by decide +kernel
theorem dX7_standard_39 : decode cX7_standard 39 = .ok (.iload_n 1, 1) := by decide +kernel
theorem dX7_standard_40 : decode cX7_standard 40 = .ok (.iaload, 1) := by decide +kernel
theorem dX7_standard_41 : decode cX7_standard 41 = .ok (.istore_n 3, 1) := by decide +kernel
theorem dX7_standard_42 : decode cX7_standard 42 = .ok (.aload_n 0, 1) := by decide +kernel
theorem dX7_standard_43 : decode cX7_standard 43 = .ok (.getfield 75, 3) := by decide +kernel
theorem dX7_standard_46 : decode cX7_standard 46 = .ok (.iload_n 1, 1) := by decide +kernel
theorem dX7_standard_47 : decode cX7_standard 47 = .ok (.iload_n 2, 1) := by decide +kernel
theorem dX7_standard_48 : decode cX7_standard 48 = .ok (.iastore, 1) := by decide +kernel
theorem dX7_standard_49 : decode cX7_standard 49 = .ok (.iload_n 3, 1) := by decide +kernel
theorem dX7_standard_50 : decode cX7_standard 50 = .ok (.ireturn, 1) := by decide +kernel
theorem dX7_limit_0 : decode cX7_limit 0 = .ok (.aload_n 0, 1) := by decide +kernel
theorem dX7_limit_1 : decode cX7_limit 1 = .ok (.iload_n 1, 1) := by decide +kernel
theorem dX7_limit_2 : decode cX7_limit 2 = .ok (.invokestatic 122, 3) := by decide +kernel
theorem dX7_limit_5 : decode cX7_limit 5 = .ok (.ifCond .eq 7, 3) := by decide +kernel
theorem dX7_limit_8 : decode cX7_limit 8 = .ok (.iconst 0, 1) := by decide +kernel
theorem dX7_limit_9 : decode cX7_limit 9 = .ok (.goto 4, 3) := by decide +kernel
theorem dX7_limit_12 : decode cX7_limit 12 = .ok (.iconst 1, 1) := by decide +kernel
theorem dX7_limit_13 : decode cX7_limit 13 = .ok (.invokevirtual 125, 3) := by decide +kernel
theorem dX7_limit_16 : decode cX7_limit 16 = .ok (.ifCond .ne 5, 3) := by decide +kernel
theorem dX7_limit_19 : decode cX7_limit 19 = .ok (.iconst 0, 1) := by decide +kernel
theorem dX7_limit_20 : decode cX7_limit 20 = .ok (.ireturn, 1) := by decide +kernel
theorem dX7_limit_21 : decode cX7_limit 21 = .ok (.aload_n 0, 1) := by decide +kernel
theorem dX7_limit_22 : decode cX7_limit 22 = .ok (.getfield 78, 3) := by decide +kernel
theorem dX7_limit_25 : decode cX7_limit 25 = .ok (.istore_n 2, 1) := by decide +kernel
theorem dX7_limit_26 : decode cX7_limit 26 = .ok (.aload_n 0, 1) := by decide +kernel
theorem dX7_limit_27 : decode cX7_limit 27 = .ok (.iload_n 1, 1) := by decide +kernel
theorem dX7_limit_28 : decode cX7_limit 28 = .ok (.putfield 78, 3) := by decide +kernel
theorem dX7_limit_31 : decode cX7_limit 31 = .ok (.iload_n 2, 1) := by decide +kernel
theorem dX7_limit_32 : decode cX7_limit 32 = .ok (.ireturn, 1) := by decide +kernel
theorem dX7_mend_0 : decode cX7_mend 0 = .ok (.aload_n 0, 1) := by decide +kernel
theorem dX7_mend_1 : decode cX7_mend 1 = .ok (.iload_n 1, 1) := by decide +kernel
theorem dX7_mend_2 : decode cX7_mend 2 = .ok (.invokevirtual 131, 3) := by decide +kernel
theorem dX7_mend_5 : decode cX7_mend 5 = .ok (.istore_n 2, 1) := by decide +kernel
theorem dX7_mend_6 : decode cX7_mend 6 = .ok (.iload_n 2, 1) := by decide +kernel
theorem dX7_mend_7 : decode cX7_mend 7 = .ok (.ifCond .eq 11, 3) := by decide +kernel
theorem dX7_mend_10 : decode cX7_mend 10 = .ok (.aload_n 0, 1) := by decide +kernel
theorem dX7_mend_11 : decode cX7_mend 11 = .ok (.iload_n 1, 1) := by decide +kernel
theorem dX7_mend_12 : decode cX7_mend 12 = .ok (.invokevirtual 183, 3) := by decide +kernel
theorem dX7_mend_15 : decode cX7_mend 15 = .ok (.goto 4, 3) := by decide +kernel
theorem dX7_mend_18 : decode cX7_mend 18 = .ok (.iconst 0, 1) := by decide +kernel
theorem dX7_mend_19 : decode cX7_mend 19 = .ok (.istore_n 3, 1) := by decide +kernel
theorem dX7_mend_20 : decode cX7_mend 20 = .ok (.aload_n 0, 1) := by decide +kernel
theorem dX7_mend_21 : decode cX7_mend 21 = .ok (.iload_n 2, 1) := by decide +kernel
theorem dX7_mend_22 : decode cX7_mend 22 = .ok (.ifCond .ne 7, 3) := by decide +kernel
theorem dX7_mend_25 : decode cX7_mend 25 = .ok (.iconst 1, 1) := by decide +kernel
theorem dX7_mend_26 : decode cX7_mend 26 = .ok (.goto 28, 3) := by decide +kernel
theorem dX7_mend_29 : decode cX7_mend 29 = .ok (.aload_n 0, 1) := by decide +kernel
theorem dX7_mend_30 : decode cX7_mend 30 = .ok (.iload_n 1, 1) := by decide +kernel
theorem dX7_mend_31 : decode cX7_mend 31 = .ok (.invokevirtual 134, 3) := by decide +kernel
theorem dX7_mend_34 : decode cX7_mend 34 = .ok (.ifCond .ne 15, 3) := by decide +kernel
theorem dX7_mend_37 : decode cX7_mend 37 = .ok (.iload_n 3, 1) := by decide +kernel
theorem dX7_mend_38 : decode cX7_mend 38 = .ok (.ifCond .eq 11, 3) := by decide +kernel
theorem dX7_mend_41 : decode cX7_mend 41 = .ok (.iload_n 3, 1) := by decide +kernel
theorem dX7_mend_42 : decode cX7_mend 42 = .ok (.aload_n 0, 1) := by decide +kernel
theorem dX7_mend_43 : decode cX7_mend 43 = .ok (.getfield 78, 3) := by decide +kernel
theorem dX7_mend_46 : decode cX7_mend 46 = .ok (.if_icmp .le 7, 3) := by decide +kernel
theorem dX7_mend_49 : decode cX7_mend 49 = .ok (.iconst 2, 1) := by decide +kernel
theorem dX7_mend_50 : decode cX7_mend 50 = .ok (.goto 4, 3) := by decide +kernel
theorem dX7_mend_53 : decode cX7_mend 53 = .ok (.iconst 0, 1) := by decide +kernel
theorem dX7_mend_54 : decode cX7_mend 54 = .ok (.invokevirtual 125, 3) := by decide +kernel
theorem dX7_mend_57 : decode cX7_mend 57 = .ok (.ifCond .ne 5, 3) := by decide +kernel
theorem dX7_mend_60 : decode cX7_mend 60 = .ok (.iconst 0, 1) := by decide +kernel
theorem dX7_mend_61 : decode cX7_mend 61 = .ok (.ireturn, 1) := by decide +kernel
theorem dX7_mend_62 : decode cX7_mend 62 = .ok (.aload_n 0, 1) := by decide +kernel
theorem dX7_mend_63 : decode cX7_mend 63 = .ok (.getfield 72, 3) := by decide +kernel
theorem dX7_mend_66 : decode cX7_mend 66 = .ok (.iload_n 1, 1) := by decide +kernel
theorem dX7_mend_67 : decode cX7_mend 67 = .ok (.iconst 0, 1) := by decide +kernel
theorem dX7_mend_68 : decode cX7_mend 68 = .ok (.iastore, 1) := by decide +kernel
theorem dX7_mend_69 : decode cX7_mend 69 = .ok (.iload_n 3, 1) := by decide +kernel
theorem dX7_mend_70 : decode cX7_mend 70 = .ok (.ireturn, 1) := by decide +kernel
theorem dX7_book_0 : decode cX7_book 0 = .ok (.aload_n 0, 1) := by decide +kernel
theorem dX7_book_1 : decode cX7_book 1 = .ok (.iload_n 1, 1) := by decide +kernel
theorem dX7_book_2 : decode cX7_book 2 = .ok (.invokestatic 118, 3) := by decide +kernel
theorem dX7_book_5 : decode cX7_book 5 = .ok (.ifCond .ne 7, 3) := by decide +kernel
theorem dX7_book_8 : decode cX7_book 8 = .ok (.iconst 1, 1) := by decide +kernel
theorem dX7_book_9 : decode cX7_book 9 = .ok (.goto 38, 3) := by decide +kernel
theorem dX7_book_12 : decode cX7_book 12 = .ok (.iload_n 2, 1) := by decide +kernel
theorem dX7_book_13 : decode cX7_book 13 = .ok (.invokestatic 128, 3) := by decide +kernel
theorem dX7_book_16 : decode cX7_book 16 = .ok (.ifCond .eq 13, 3) := by decide +kernel
theorem dX7_book_19 : decode cX7_book 19 = .ok (.iload_n 3, 1) := by decide +kernel
theorem dX7_book_20 : decode cX7_book 20 = .ok (.iconst 1, 1) := by decide +kernel
theorem dX7_book_21 : decode cX7_book 21 = .ok (.bipush 9, 2) := by decide +kernel
theorem dX7_book_23 : decode cX7_book 23 = .ok (.invokestatic 111, 3) := by decide +kernel
theorem dX7_book_26 : decode cX7_book 26 = .ok (.ifCond .ne 7, 3) := by decide +kernel
theorem dX7_book_29 : decode cX7_book 29 = .ok (.iconst 2, 1) := by decide +kernel
theorem dX7_book_30 : decode cX7_book 30 = .ok (.goto 17, 3) := by decide +kernel
theorem dX7_book_33 : decode cX7_book 33 = .ok (.aload_n 0, 1) := by decide +kernel
theorem dX7_book_34 : decode cX7_book 34 = .ok (.getfield 186, 3) := by decide +kernel
theorem dX7_book_37 : decode cX7_book 37 = .ok (.bipush 20, 2) := by decide +kernel
theorem dX7_book_39 : decode cX7_book 39 = .ok (.if_icmp .ne 7, 3) := by decide +kernel
theorem dX7_book_42 : decode cX7_book 42 = .ok (.iconst 3, 1) := by decide +kernel
theorem dX7_book_43 : decode cX7_book 43 = .ok (.goto 4, 3) := by decide +kernel
theorem dX7_book_46 : decode cX7_book 46 = .ok (.iconst 0, 1) := by decide +kernel
theorem dX7_book_47 : decode cX7_book 47 = .ok (.invokevirtual 125, 3) := by decide +kernel
theorem dX7_book_50 : decode cX7_book 50 = .ok (.ifCond .ne 5, 3) := by decide +kernel
theorem dX7_book_53 : decode cX7_book 53 = .ok (.iconst 0, 1) := by decide +kernel
theorem dX7_book_54 : decode cX7_book 54 = .ok (.ireturn, 1) := by decide +kernel
theorem dX7_book_55 : decode cX7_book 55 = .ok (.aload_n 0, 1) := by decide +kernel
theorem dX7_book_56 : decode cX7_book 56 = .ok (.getfield 81, 3) := by decide +kernel
theorem dX7_book_59 : decode cX7_book 59 = .ok (.aload_n 0, 1) := by decide +kernel
theorem dX7_book_60 : decode cX7_book 60 = .ok (.getfield 186, 3) := by decide +kernel
theorem dX7_book_63 : decode cX7_book 63 = .ok (.iload_n 1, 1) := by decide +kernel
theorem dX7_book_64 : decode cX7_book 64 = .ok (.iastore, 1) := by decide +kernel
theorem dX7_book_65 : decode cX7_book 65 = .ok (.aload_n 0, 1) := by decide +kernel
theorem dX7_book_66 : decode cX7_book 66 = .ok (.getfield 84, 3) := by decide +kernel
theorem dX7_book_69 : decode cX7_book 69 = .ok (.aload_n 0, 1) := by decide +kernel
theorem dX7_book_70 : decode cX7_book 70 = .ok (.getfield 186, 3) := by decide +kernel
theorem dX7_book_73 : decode cX7_book 73 = .ok (.iload_n 2, 1) := by decide +kernel
theorem dX7_book_74 : decode cX7_book 74 = .ok (.iastore, 1) := by decide +kernel
theorem dX7_book_75 : decode cX7_book 75 = .ok (.aload_n 0, 1) := by decide +kernel
theorem dX7_book_76 : decode cX7_book 76 = .ok (.getfield 87, 3) := by decide +kernel
theorem dX7_book_79 : decode cX7_book 79 = .ok (.aload_n 0, 1) := by decide +kernel
theorem dX7_book_80 : decode cX7_book 80 = .ok (.getfield 186, 3) := by decide +kernel
theorem dX7_book_83 : decode cX7_book 83 = .ok (.iload_n 3, 1) := by decide +kernel
theorem dX7_book_84 : decode cX7_book 84 = .ok (.iastore, 1) := by decide +kernel
theorem dX7_book_85 : decode cX7_book 85 = .ok (.aload_n 0, 1) := by decide +kernel
theorem dX7_book_86 : decode cX7_book 86 = .ok (.dup, 1) := by decide +kernel
theorem dX7_book_87 : decode cX7_book 87 = .ok (.getfield 186, 3) := by decide +kernel
theorem dX7_book_90 : decode cX7_book 90 = .ok (.iconst 1, 1) := by decide +kernel
theorem dX7_book_91 : decode cX7_book 91 = .ok (.iadd, 1) := by decide +kernel
theorem dX7_book_92 : decode cX7_book 92 = .ok (.putfield 186, 3) := by decide +kernel
theorem dX7_book_95 : decode cX7_book 95 = .ok (.aload_n 0, 1) := by decide +kernel
theorem dX7_book_96 : decode cX7_book 96 = .ok (.getfield 186, 3) := by decide +kernel
theorem dX7_book_99 : decode cX7_book 99 = .ok (.iconst 1, 1) := by decide +kernel
theorem dX7_book_100 : decode cX7_book 100 = .ok (.isub, 1) := by decide +kernel
theorem dX7_book_101 : decode cX7_book 101 = .ok (.ireturn, 1) := by decide +kernel
theorem dX7_given_0 : decode cX7_given 0 = .ok (.iconst 0, 1) := by decide +kernel
theorem dX7_given_1 : decode cX7_given 1 = .ok (.istore_n 2, 1) := by decide +kernel
theorem dX7_given_2 : decode cX7_given 2 = .ok (.iconst 0, 1) := by decide +kernel
theorem dX7_given_3 : decode cX7_given 3 = .ok (.istore_n 3, 1) := by decide +kernel
theorem dX7_given_4 : decode cX7_given 4 = .ok (.iload_n 3, 1) := by decide +kernel
theorem dX7_given_5 : decode cX7_given 5 = .ok (.aload_n 0, 1) := by decide +kernel
theorem dX7_given_6 : decode cX7_given 6 = .ok (.getfield 115, 3) := by decide +kernel
theorem dX7_given_9 : decode cX7_given 9 = .ok (.if_icmp .ge 27, 3) := by decide +kernel
theorem dX7_given_12 : decode cX7_given 12 = .ok (.iload_n 2, 1) := by decide +kernel
theorem dX7_given_13 : decode cX7_given 13 = .ok (.aload_n 0, 1) := by decide +kernel
theorem dX7_given_14 : decode cX7_given 14 = .ok (.getfield 29, 3) := by decide +kernel
theorem dX7_given_17 : decode cX7_given 17 = .ok (.iload_n 3, 1) := by decide +kernel
theorem dX7_given_18 : decode cX7_given 18 = .ok (.iaload, 1) := by decide +kernel
theorem dX7_given_19 : decode cX7_given 19 = .ok (.iload_n 1, 1) := by decide +kernel
theorem dX7_given_20 : decode cX7_given 20 = .ok (.if_icmp .ne 7, 3) := by decide +kernel
theorem dX7_given_23 : decode cX7_given 23 = .ok (.iconst 1, 1) := by decide +kernel
theorem dX7_given_24 : decode cX7_given 24 = .ok (.goto 4, 3) := by decide +kernel
theorem dX7_given_27 : decode cX7_given 27 = .ok (.iconst 0, 1) := by decide +kernel
theorem dX7_given_28 : decode cX7_given 28 = .ok (.iadd, 1) := by decide +kernel
theorem dX7_given_29 : decode cX7_given 29 = .ok (.istore_n 2, 1) := by decide +kernel
theorem dX7_given_30 : decode cX7_given 30 = .ok (.iinc 3 1, 3) := by decide +kernel
theorem dX7_given_33 : decode cX7_given 33 = .ok (.goto (-29), 3) := by decide +kernel
theorem dX7_given_36 : decode cX7_given 36 = .ok (.iload_n 2, 1) := by decide +kernel
theorem dX7_given_37 : decode cX7_given 37 = .ok (.ireturn, 1) := by decide +kernel
theorem dX7_lacking_0 : decode cX7_lacking 0 = .ok (.aload_n 0, 1) := by decide +kernel
theorem dX7_lacking_1 : decode cX7_lacking 1 = .ok (.getfield 90, 3) := by decide +kernel
theorem dX7_lacking_4 : decode cX7_lacking 4 = .ok (.iload_n 1, 1) := by decide +kernel
theorem dX7_lacking_5 : decode cX7_lacking 5 = .ok (.baload, 1) := by decide +kernel
theorem dX7_lacking_6 : decode cX7_lacking 6 = .ok (.ifCond .eq 7, 3) := by decide +kernel
theorem dX7_lacking_9 : decode cX7_lacking 9 = .ok (.iconst 0, 1) := by decide +kernel
theorem dX7_lacking_10 : decode cX7_lacking 10 = .ok (.goto 15, 3) := by decide +kernel
theorem dX7_lacking_13 : decode cX7_lacking 13 = .ok (.aload_n 0, 1) := by decide +kernel
theorem dX7_lacking_14 : decode cX7_lacking 14 = .ok (.getfield 87, 3) := by decide +kernel
theorem dX7_lacking_17 : decode cX7_lacking 17 = .ok (.iload_n 1, 1) := by decide +kernel
theorem dX7_lacking_18 : decode cX7_lacking 18 = .ok (.iaload, 1) := by decide +kernel
theorem dX7_lacking_19 : decode cX7_lacking 19 = .ok (.aload_n 0, 1) := by decide +kernel
theorem dX7_lacking_20 : decode cX7_lacking 20 = .ok (.iload_n 1, 1) := by decide +kernel
theorem dX7_lacking_21 : decode cX7_lacking 21 = .ok (.invokevirtual 189, 3) := by decide +kernel
theorem dX7_lacking_24 : decode cX7_lacking 24 = .ok (.isub, 1) := by decide +kernel
theorem dX7_lacking_25 : decode cX7_lacking 25 = .ok (.ireturn, 1) := by decide +kernel
theorem dX7_canServe_0 : decode cX7_canServe 0 = .ok (.aload_n 0, 1) := by decide +kernel
theorem dX7_canServe_1 : decode cX7_canServe 1 = .ok (.iload_n 1, 1) := by decide +kernel
theorem dX7_canServe_2 : decode cX7_canServe 2 = .ok (.aload_n 0, 1) := by decide +kernel
theorem dX7_canServe_3 : decode cX7_canServe 3 = .ok (.getfield 152, 3) := by decide +kernel
theorem dX7_canServe_6 : decode cX7_canServe 6 = .ok (.invokevirtual 158, 3) := by decide +kernel
theorem dX7_canServe_9 : decode cX7_canServe 9 = .ok (.invokestatic 118, 3) := by decide +kernel
theorem dX7_canServe_12 : decode cX7_canServe 12 = .ok (.ifCond .eq 55, 3) := by decide +kernel
theorem dX7_canServe_15 : decode cX7_canServe 15 = .ok (.aload_n 0, 1) := by decide +kernel
theorem dX7_canServe_16 : decode cX7_canServe 16 = .ok (.iload_n 1, 1) := by decide +kernel
theorem dX7_canServe_17 : decode cX7_canServe 17 = .ok (.invokevirtual 134, 3) := by decide +kernel
theorem dX7_canServe_20 : decode cX7_canServe 20 = .ok (.ifCond .ne 47, 3) := by decide +kernel
theorem dX7_canServe_23 : decode cX7_canServe 23 = .ok (.aload_n 0, 1) := by decide +kernel
theorem dX7_canServe_24 : decode cX7_canServe 24 = .ok (.getfield 29, 3) := by decide +kernel
theorem dX7_canServe_27 : decode cX7_canServe 27 = .ok (.iload_n 1, 1) := by decide +kernel
theorem dX7_canServe_28 : decode cX7_canServe 28 = .ok (.iaload, 1) := by decide +kernel
theorem dX7_canServe_29 : decode cX7_canServe 29 = .ok (.iconst (-1), 1) := by decide +kernel
theorem dX7_canServe_30 : decode cX7_canServe 30 = .ok (.if_icmp .ne 37, 3) := by decide +kernel
theorem dX7_canServe_33 : decode cX7_canServe 33 = .ok (.aload_n 0, 1) := by decide +kernel
theorem dX7_canServe_34 : decode cX7_canServe 34 = .ok (.getfield 22, 3) := by decide +kernel
theorem dX7_canServe_37 : decode cX7_canServe 37 = .ok (.iload_n 1, 1) := by decide +kernel
theorem dX7_canServe_38 : decode cX7_canServe 38 = .ok (.baload, 1) := by decide +kernel
theorem dX7_canServe_39 : decode cX7_canServe 39 = .ok (.ifCond .ne 28, 3) := by decide +kernel
theorem dX7_canServe_42 : decode cX7_canServe 42 = .ok (.aload_n 0, 1) := by decide +kernel
theorem dX7_canServe_43 : decode cX7_canServe 43 = .ok (.getfield 19, 3) := by decide +kernel
theorem dX7_canServe_46 : decode cX7_canServe 46 = .ok (.iload_n 1, 1) := by decide +kernel
theorem dX7_canServe_47 : decode cX7_canServe 47 = .ok (.iaload, 1) := by decide +kernel
theorem dX7_canServe_48 : decode cX7_canServe 48 = .ok (.aload_n 0, 1) := by decide +kernel
theorem dX7_canServe_49 : decode cX7_canServe 49 = .ok (.getfield 152, 3) := by decide +kernel
theorem dX7_canServe_52 : decode cX7_canServe 52 = .ok (.if_icmp .lt 15, 3) := by decide +kernel
theorem dX7_canServe_55 : decode cX7_canServe 55 = .ok (.aload_n 0, 1) := by decide +kernel
theorem dX7_canServe_56 : decode cX7_canServe 56 = .ok (.iload_n 1, 1) := by decide +kernel
theorem dX7_canServe_57 : decode cX7_canServe 57 = .ok (.invokevirtual 183, 3) := by decide +kernel
theorem dX7_canServe_60 : decode cX7_canServe 60 = .ok (.ifCond .ne 7, 3) := by decide +kernel
theorem dX7_canServe_63 : decode cX7_canServe 63 = .ok (.iconst 1, 1) := by decide +kernel
theorem dX7_canServe_64 : decode cX7_canServe 64 = .ok (.goto 4, 3) := by decide +kernel
theorem dX7_canServe_67 : decode cX7_canServe 67 = .ok (.iconst 0, 1) := by decide +kernel
theorem dX7_canServe_68 : decode cX7_canServe 68 = .ok (.ireturn, 1) := by decide +kernel
theorem dX7_serves_0 : decode cX7_serves 0 = .ok (.aload_n 0, 1) := by decide +kernel
theorem dX7_serves_1 : decode cX7_serves 1 = .ok (.iload_n 1, 1) := by decide +kernel
theorem dX7_serves_2 : decode cX7_serves 2 = .ok (.invokevirtual 192, 3) := by decide +kernel
theorem dX7_serves_5 : decode cX7_serves 5 = .ok (.istore_n 2, 1) := by decide +kernel
theorem dX7_serves_6 : decode cX7_serves 6 = .ok (.iconst 0, 1) := by decide +kernel
theorem dX7_serves_7 : decode cX7_serves 7 = .ok (.istore_n 3, 1) := by decide +kernel
theorem dX7_serves_8 : decode cX7_serves 8 = .ok (.aload_n 0, 1) := by decide +kernel
theorem dX7_serves_9 : decode cX7_serves 9 = .ok (.getfield 84, 3) := by decide +kernel
theorem dX7_serves_12 : decode cX7_serves 12 = .ok (.iload_n 1, 1) := by decide +kernel
theorem dX7_serves_13 : decode cX7_serves 13 = .ok (.iaload, 1) := by decide +kernel
theorem dX7_serves_14 : decode cX7_serves 14 = .ok (.istore 4, 2) := by decide +kernel
theorem dX7_serves_16 : decode cX7_serves 16 = .ok (.iload 4, 2) := by decide +kernel
theorem dX7_serves_18 : decode cX7_serves 18 = .ok (.iconst 3, 1) := by decide +kernel
theorem dX7_serves_19 : decode cX7_serves 19 = .ok (.if_icmp .ge 83, 3) := by decide +kernel
theorem dX7_serves_22 : decode cX7_serves 22 = .ok (.iconst 0, 1) := by decide +kernel
theorem dX7_serves_23 : decode cX7_serves 23 = .ok (.istore 5, 2) := by decide +kernel
theorem dX7_serves_25 : decode cX7_serves 25 = .ok (.iload 5, 2) := by decide +kernel
theorem dX7_serves_27 : decode cX7_serves 27 = .ok (.aload_n 0, 1) := by decide +kernel
theorem dX7_serves_28 : decode cX7_serves 28 = .ok (.getfield 115, 3) := by decide +kernel
theorem dX7_serves_31 : decode cX7_serves 31 = .ok (.if_icmp .ge 65, 3) := by decide +kernel
theorem dX7_serves_34 : decode cX7_serves 34 = .ok (.iload_n 3, 1) := by decide +kernel
theorem dX7_serves_35 : decode cX7_serves 35 = .ok (.iload_n 2, 1) := by decide +kernel
theorem dX7_serves_36 : decode cX7_serves 36 = .ok (.if_icmp .ge 60, 3) := by decide +kernel
theorem dX7_serves_39 : decode cX7_serves 39 = .ok (.aload_n 0, 1) := by decide +kernel
theorem dX7_serves_40 : decode cX7_serves 40 = .ok (.getfield 13, 3) := by decide +kernel
theorem dX7_serves_43 : decode cX7_serves 43 = .ok (.iload 5, 2) := by decide +kernel
theorem dX7_serves_45 : decode cX7_serves 45 = .ok (.iaload, 1) := by decide +kernel
theorem dX7_serves_46 : decode cX7_serves 46 = .ok (.iload 4, 2) := by decide +kernel
theorem dX7_serves_48 : decode cX7_serves 48 = .ok (.if_icmp .ne 42, 3) := by decide +kernel
theorem dX7_serves_51 : decode cX7_serves 51 = .ok (.aload_n 0, 1) := by decide +kernel
theorem dX7_serves_52 : decode cX7_serves 52 = .ok (.iload 5, 2) := by decide +kernel
theorem dX7_serves_54 : decode cX7_serves 54 = .ok (.invokevirtual 195, 3) := by decide +kernel
theorem dX7_serves_57 : decode cX7_serves 57 = .ok (.ifCond .eq 33, 3) := by decide +kernel
theorem dX7_serves_60 : decode cX7_serves 60 = .ok (.aload_n 0, 1) := by decide +kernel
theorem dX7_serves_61 : decode cX7_serves 61 = .ok (.iload 5, 2) := by decide +kernel
theorem dX7_serves_63 : decode cX7_serves 63 = .ok (.aload_n 0, 1) := by decide +kernel
theorem dX7_serves_64 : decode cX7_serves 64 = .ok (.getfield 152, 3) := by decide +kernel
theorem dX7_serves_67 : decode cX7_serves 67 = .ok (.invokevirtual 158, 3) := by decide +kernel
theorem dX7_serves_70 : decode cX7_serves 70 = .ok (.aload_n 0, 1) := by decide +kernel
theorem dX7_serves_71 : decode cX7_serves 71 = .ok (.getfield 81, 3) := by decide +kernel
theorem dX7_serves_74 : decode cX7_serves 74 = .ok (.iload_n 1, 1) := by decide +kernel
theorem dX7_serves_75 : decode cX7_serves 75 = .ok (.iaload, 1) := by decide +kernel
theorem dX7_serves_76 : decode cX7_serves 76 = .ok (.if_icmp .ne 14, 3) := by decide +kernel
theorem dX7_serves_79 : decode cX7_serves 79 = .ok (.aload_n 0, 1) := by decide +kernel
theorem dX7_serves_80 : decode cX7_serves 80 = .ok (.getfield 29, 3) := by decide +kernel
theorem dX7_serves_83 : decode cX7_serves 83 = .ok (.iload 5, 2) := by decide +kernel
theorem dX7_serves_85 : decode cX7_serves 85 = .ok (.iload_n 1, 1) := by decide +kernel
theorem dX7_serves_86 : decode cX7_serves 86 = .ok (.iastore, 1) := by decide +kernel
theorem dX7_serves_87 : decode cX7_serves 87 = .ok (.iinc 3 1, 3) := by decide +kernel
theorem dX7_serves_90 : decode cX7_serves 90 = .ok (.iinc 5 1, 3) := by decide +kernel
theorem dX7_serves_93 : decode cX7_serves 93 = .ok (.goto (-68), 3) := by decide +kernel
theorem dX7_serves_96 : decode cX7_serves 96 = .ok (.iinc 4 1, 3) := by decide +kernel
theorem dX7_serves_99 : decode cX7_serves 99 = .ok (.goto (-83), 3) := by decide +kernel
theorem dX7_serves_102 : decode cX7_serves 102 = .ok (.iload_n 3, 1) := by decide +kernel
theorem dX7_serves_103 : decode cX7_serves 103 = .ok (.ireturn, 1) := by decide +kernel
theorem dX7_serve_0 : decode cX7_serve 0 = .ok (.aload_n 0, 1) := by decide +kernel
theorem dX7_serve_1 : decode cX7_serve 1 = .ok (.iconst 0, 1) := by decide +kernel
theorem dX7_serve_2 : decode cX7_serve 2 = .ok (.putfield 108, 3) := by decide +kernel
theorem dX7_serve_5 : decode cX7_serve 5 = .ok (.iconst 0, 1) := by decide +kernel
theorem dX7_serve_6 : decode cX7_serve 6 = .ok (.istore_n 1, 1) := by decide +kernel
theorem dX7_serve_7 : decode cX7_serve 7 = .ok (.iconst 0, 1) := by decide +kernel
theorem dX7_serve_8 : decode cX7_serve 8 = .ok (.istore_n 2, 1) := by decide +kernel
theorem dX7_serve_9 : decode cX7_serve 9 = .ok (.iload_n 2, 1) := by decide +kernel
theorem dX7_serve_10 : decode cX7_serve 10 = .ok (.aload_n 0, 1) := by decide +kernel
theorem dX7_serve_11 : decode cX7_serve 11 = .ok (.getfield 186, 3) := by decide +kernel
theorem dX7_serve_14 : decode cX7_serve 14 = .ok (.if_icmp .ge 17, 3) := by decide +kernel
theorem dX7_serve_17 : decode cX7_serve 17 = .ok (.iload_n 1, 1) := by decide +kernel
theorem dX7_serve_18 : decode cX7_serve 18 = .ok (.aload_n 0, 1) := by decide +kernel
theorem dX7_serve_19 : decode cX7_serve 19 = .ok (.iload_n 2, 1) := by decide +kernel
theorem dX7_serve_20 : decode cX7_serve 20 = .ok (.invokevirtual 198, 3) := by decide +kernel
theorem dX7_serve_23 : decode cX7_serve 23 = .ok (.iadd, 1) := by decide +kernel
theorem dX7_serve_24 : decode cX7_serve 24 = .ok (.istore_n 1, 1) := by decide +kernel
theorem dX7_serve_25 : decode cX7_serve 25 = .ok (.iinc 2 1, 3) := by decide +kernel
theorem dX7_serve_28 : decode cX7_serve 28 = .ok (.goto (-19), 3) := by decide +kernel
theorem dX7_serve_31 : decode cX7_serve 31 = .ok (.iload_n 1, 1) := by decide +kernel
theorem dX7_serve_32 : decode cX7_serve 32 = .ok (.ireturn, 1) := by decide +kernel
theorem dX7_isBooking_0 : decode cX7_isBooking 0 = .ok (.iload_n 1, 1) := by decide +kernel
theorem dX7_isBooking_1 : decode cX7_isBooking 1 = .ok (.iconst 0, 1) := by decide +kernel
theorem dX7_isBooking_2 : decode cX7_isBooking 2 = .ok (.aload_n 0, 1) := by decide +kernel
theorem dX7_isBooking_3 : decode cX7_isBooking 3 = .ok (.getfield 186, 3) := by decide +kernel
theorem dX7_isBooking_6 : decode cX7_isBooking 6 = .ok (.iconst 1, 1) := by decide +kernel
theorem dX7_isBooking_7 : decode cX7_isBooking 7 = .ok (.isub, 1) := by decide +kernel
theorem dX7_isBooking_8 : decode cX7_isBooking 8 = .ok (.invokestatic 111, 3) := by decide +kernel
theorem dX7_isBooking_11 : decode cX7_isBooking 11 = .ok (.ireturn, 1) := by decide +kernel
theorem dX7_end_0 : decode cX7_end 0 = .ok (.aload_n 0, 1) := by decide +kernel
theorem dX7_end_1 : decode cX7_end 1 = .ok (.iload_n 1, 1) := by decide +kernel
theorem dX7_end_2 : decode cX7_end 2 = .ok (.invokevirtual 201, 3) := by decide +kernel
theorem dX7_end_5 : decode cX7_end 5 = .ok (.istore_n 2, 1) := by decide +kernel
theorem dX7_end_6 : decode cX7_end 6 = .ok (.aload_n 0, 1) := by decide +kernel
theorem dX7_end_7 : decode cX7_end 7 = .ok (.iload_n 2, 1) := by decide +kernel
theorem dX7_end_8 : decode cX7_end 8 = .ok (.ifCond .ne 7, 3) := by decide +kernel
theorem dX7_end_11 : decode cX7_end 11 = .ok (.iconst 1, 1) := by decide +kernel
theorem dX7_end_12 : decode cX7_end 12 = .ok (.goto 17, 3) := by decide +kernel
theorem dX7_end_15 : decode cX7_end 15 = .ok (.aload_n 0, 1) := by decide +kernel
theorem dX7_end_16 : decode cX7_end 16 = .ok (.getfield 90, 3) := by decide +kernel
theorem dX7_end_19 : decode cX7_end 19 = .ok (.iload_n 1, 1) := by decide +kernel
theorem dX7_end_20 : decode cX7_end 20 = .ok (.baload, 1) := by decide +kernel
theorem dX7_end_21 : decode cX7_end 21 = .ok (.ifCond .eq 7, 3) := by decide +kernel
theorem dX7_end_24 : decode cX7_end 24 = .ok (.iconst 2, 1) := by decide +kernel
theorem dX7_end_25 : decode cX7_end 25 = .ok (.goto 4, 3) := by decide +kernel
theorem dX7_end_28 : decode cX7_end 28 = .ok (.iconst 0, 1) := by decide +kernel
theorem dX7_end_29 : decode cX7_end 29 = .ok (.invokevirtual 125, 3) := by decide +kernel
theorem dX7_end_32 : decode cX7_end 32 = .ok (.ifCond .ne 5, 3) := by decide +kernel
theorem dX7_end_35 : decode cX7_end 35 = .ok (.iconst 0, 1) := by decide +kernel
theorem dX7_end_36 : decode cX7_end 36 = .ok (.ireturn, 1) := by decide +kernel
theorem dX7_end_37 : decode cX7_end 37 = .ok (.aload_n 0, 1) := by decide +kernel
theorem dX7_end_38 : decode cX7_end 38 = .ok (.iload_n 1, 1) := by decide +kernel
theorem dX7_end_39 : decode cX7_end 39 = .ok (.invokevirtual 189, 3) := by decide +kernel
theorem dX7_end_42 : decode cX7_end 42 = .ok (.istore_n 3, 1) := by decide +kernel
theorem dX7_end_43 : decode cX7_end 43 = .ok (.iconst 0, 1) := by decide +kernel
theorem dX7_end_44 : decode cX7_end 44 = .ok (.istore 4, 2) := by decide +kernel
theorem dX7_end_46 : decode cX7_end 46 = .ok (.iload 4, 2) := by decide +kernel
theorem dX7_end_48 : decode cX7_end 48 = .ok (.aload_n 0, 1) := by decide +kernel
theorem dX7_end_49 : decode cX7_end 49 = .ok (.getfield 115, 3) := by decide +kernel
theorem dX7_end_52 : decode cX7_end 52 = .ok (.if_icmp .ge 36, 3) := by decide +kernel
theorem dX7_end_55 : decode cX7_end 55 = .ok (.aload_n 0, 1) := by decide +kernel
theorem dX7_end_56 : decode cX7_end 56 = .ok (.getfield 29, 3) := by decide +kernel
theorem dX7_end_59 : decode cX7_end 59 = .ok (.iload 4, 2) := by decide +kernel
theorem dX7_end_61 : decode cX7_end 61 = .ok (.iaload, 1) := by decide +kernel
theorem dX7_end_62 : decode cX7_end 62 = .ok (.iload_n 1, 1) := by decide +kernel
theorem dX7_end_63 : decode cX7_end 63 = .ok (.if_icmp .ne 19, 3) := by decide +kernel
theorem dX7_end_66 : decode cX7_end 66 = .ok (.aload_n 0, 1) := by decide +kernel
theorem dX7_end_67 : decode cX7_end 67 = .ok (.getfield 29, 3) := by decide +kernel
theorem dX7_end_70 : decode cX7_end 70 = .ok (.iload 4, 2) := by decide +kernel
theorem dX7_end_72 : decode cX7_end 72 = .ok (.iconst (-1), 1) := by decide +kernel
theorem dX7_end_73 : decode cX7_end 73 = .ok (.iastore, 1) := by decide +kernel
theorem dX7_end_74 : decode cX7_end 74 = .ok (.aload_n 0, 1) := by decide +kernel
theorem dX7_end_75 : decode cX7_end 75 = .ok (.getfield 22, 3) := by decide +kernel
theorem dX7_end_78 : decode cX7_end 78 = .ok (.iload 4, 2) := by decide +kernel
theorem dX7_end_80 : decode cX7_end 80 = .ok (.iconst 1, 1) := by decide +kernel
theorem dX7_end_81 : decode cX7_end 81 = .ok (.bastore, 1) := by decide +kernel
theorem dX7_end_82 : decode cX7_end 82 = .ok (.iinc 4 1, 3) := by decide +kernel
theorem dX7_end_85 : decode cX7_end 85 = .ok (.goto (-39), 3) := by decide +kernel
theorem dX7_end_88 : decode cX7_end 88 = .ok (.aload_n 0, 1) := by decide +kernel
theorem dX7_end_89 : decode cX7_end 89 = .ok (.getfield 90, 3) := by decide +kernel
theorem dX7_end_92 : decode cX7_end 92 = .ok (.iload_n 1, 1) := by decide +kernel
theorem dX7_end_93 : decode cX7_end 93 = .ok (.iconst 1, 1) := by decide +kernel
theorem dX7_end_94 : decode cX7_end 94 = .ok (.bastore, 1) := by decide +kernel
theorem dX7_end_95 : decode cX7_end 95 = .ok (.iload_n 3, 1) := by decide +kernel
theorem dX7_end_96 : decode cX7_end 96 = .ok (.ireturn, 1) := by decide +kernel
theorem dX7_lacksAt_0 : decode cX7_lacksAt 0 = .ok (.iconst 0, 1) := by decide +kernel
theorem dX7_lacksAt_1 : decode cX7_lacksAt 1 = .ok (.istore_n 3, 1) := by decide +kernel
theorem dX7_lacksAt_2 : decode cX7_lacksAt 2 = .ok (.iconst 0, 1) := by decide +kernel
theorem dX7_lacksAt_3 : decode cX7_lacksAt 3 = .ok (.istore 4, 2) := by decide +kernel
theorem dX7_lacksAt_5 : decode cX7_lacksAt 5 = .ok (.iload 4, 2) := by decide +kernel
theorem dX7_lacksAt_7 : decode cX7_lacksAt 7 = .ok (.aload_n 0, 1) := by decide +kernel
theorem dX7_lacksAt_8 : decode cX7_lacksAt 8 = .ok (.getfield 186, 3) := by decide +kernel
theorem dX7_lacksAt_11 : decode cX7_lacksAt 11 = .ok (.if_icmp .ge 44, 3) := by decide +kernel
theorem dX7_lacksAt_14 : decode cX7_lacksAt 14 = .ok (.iload_n 3, 1) := by decide +kernel
theorem dX7_lacksAt_15 : decode cX7_lacksAt 15 = .ok (.aload_n 0, 1) := by decide +kernel
theorem dX7_lacksAt_16 : decode cX7_lacksAt 16 = .ok (.getfield 84, 3) := by decide +kernel
theorem dX7_lacksAt_19 : decode cX7_lacksAt 19 = .ok (.iload 4, 2) := by decide +kernel
theorem dX7_lacksAt_21 : decode cX7_lacksAt 21 = .ok (.iaload, 1) := by decide +kernel
theorem dX7_lacksAt_22 : decode cX7_lacksAt 22 = .ok (.iload_n 1, 1) := by decide +kernel
theorem dX7_lacksAt_23 : decode cX7_lacksAt 23 = .ok (.if_icmp .ne 23, 3) := by decide +kernel
theorem dX7_lacksAt_26 : decode cX7_lacksAt 26 = .ok (.aload_n 0, 1) := by decide +kernel
theorem dX7_lacksAt_27 : decode cX7_lacksAt 27 = .ok (.getfield 81, 3) := by decide +kernel
theorem dX7_lacksAt_30 : decode cX7_lacksAt 30 = .ok (.iload 4, 2) := by decide +kernel
theorem dX7_lacksAt_32 : decode cX7_lacksAt 32 = .ok (.iaload, 1) := by decide +kernel
theorem dX7_lacksAt_33 : decode cX7_lacksAt 33 = .ok (.iload_n 2, 1) := by decide +kernel
theorem dX7_lacksAt_34 : decode cX7_lacksAt 34 = .ok (.if_icmp .ne 12, 3) := by decide +kernel
theorem dX7_lacksAt_37 : decode cX7_lacksAt 37 = .ok (.aload_n 0, 1) := by decide +kernel
theorem dX7_lacksAt_38 : decode cX7_lacksAt 38 = .ok (.iload 4, 2) := by decide +kernel
theorem dX7_lacksAt_40 : decode cX7_lacksAt 40 = .ok (.invokevirtual 192, 3) := by decide +kernel
theorem dX7_lacksAt_43 : decode cX7_lacksAt 43 = .ok (.goto 4, 3) := by decide +kernel
theorem dX7_lacksAt_46 : decode cX7_lacksAt 46 = .ok (.iconst 0, 1) := by decide +kernel
theorem dX7_lacksAt_47 : decode cX7_lacksAt 47 = .ok (.iadd, 1) := by decide +kernel
theorem dX7_lacksAt_48 : decode cX7_lacksAt 48 = .ok (.istore_n 3, 1) := by decide +kernel
theorem dX7_lacksAt_49 : decode cX7_lacksAt 49 = .ok (.iinc 4 1, 3) := by decide +kernel
theorem dX7_lacksAt_52 : decode cX7_lacksAt 52 = .ok (.goto (-47), 3) := by decide +kernel
theorem dX7_lacksAt_55 : decode cX7_lacksAt 55 = .ok (.iload_n 3, 1) := by decide +kernel
theorem dX7_lacksAt_56 : decode cX7_lacksAt 56 = .ok (.ireturn, 1) := by decide +kernel
theorem dX7_lacksOf_0 : decode cX7_lacksOf 0 = .ok (.iconst 0, 1) := by decide +kernel
theorem dX7_lacksOf_1 : decode cX7_lacksOf 1 = .ok (.istore_n 2, 1) := by decide +kernel
theorem dX7_lacksOf_2 : decode cX7_lacksOf 2 = .ok (.iconst 0, 1) := by decide +kernel
theorem dX7_lacksOf_3 : decode cX7_lacksOf 3 = .ok (.istore_n 3, 1) := by decide +kernel
theorem dX7_lacksOf_4 : decode cX7_lacksOf 4 = .ok (.iload_n 3, 1) := by decide +kernel
theorem dX7_lacksOf_5 : decode cX7_lacksOf 5 = .ok (.bipush 6, 2) := by decide +kernel
theorem dX7_lacksOf_7 : decode cX7_lacksOf 7 = .ok (.if_icmp .ge 18, 3) := by decide +kernel
theorem dX7_lacksOf_10 : decode cX7_lacksOf 10 = .ok (.iload_n 2, 1) := by decide +kernel
theorem dX7_lacksOf_11 : decode cX7_lacksOf 11 = .ok (.aload_n 0, 1) := by decide +kernel
theorem dX7_lacksOf_12 : decode cX7_lacksOf 12 = .ok (.iload_n 1, 1) := by decide +kernel
theorem dX7_lacksOf_13 : decode cX7_lacksOf 13 = .ok (.iload_n 3, 1) := by decide +kernel
theorem dX7_lacksOf_14 : decode cX7_lacksOf 14 = .ok (.invokevirtual 204, 3) := by decide +kernel
theorem dX7_lacksOf_17 : decode cX7_lacksOf 17 = .ok (.iadd, 1) := by decide +kernel
theorem dX7_lacksOf_18 : decode cX7_lacksOf 18 = .ok (.istore_n 2, 1) := by decide +kernel
theorem dX7_lacksOf_19 : decode cX7_lacksOf 19 = .ok (.iinc 3 1, 3) := by decide +kernel
theorem dX7_lacksOf_22 : decode cX7_lacksOf 22 = .ok (.goto (-18), 3) := by decide +kernel
theorem dX7_lacksOf_25 : decode cX7_lacksOf 25 = .ok (.iload_n 2, 1) := by decide +kernel
theorem dX7_lacksOf_26 : decode cX7_lacksOf 26 = .ok (.ireturn, 1) := by decide +kernel
theorem dX7_laysOut_0 : decode cX7_laysOut 0 = .ok (.aload_n 0, 1) := by decide +kernel
theorem dX7_laysOut_1 : decode cX7_laysOut 1 = .ok (.iconst 0, 1) := by decide +kernel
theorem dX7_laysOut_2 : decode cX7_laysOut 2 = .ok (.putfield 207, 3) := by decide +kernel
theorem dX7_laysOut_5 : decode cX7_laysOut 5 = .ok (.iconst 0, 1) := by decide +kernel
theorem dX7_laysOut_6 : decode cX7_laysOut 6 = .ok (.istore_n 2, 1) := by decide +kernel
theorem dX7_laysOut_7 : decode cX7_laysOut 7 = .ok (.iload_n 2, 1) := by decide +kernel
theorem dX7_laysOut_8 : decode cX7_laysOut 8 = .ok (.bipush 6, 2) := by decide +kernel
theorem dX7_laysOut_10 : decode cX7_laysOut 10 = .ok (.if_icmp .ge 46, 3) := by decide +kernel
theorem dX7_laysOut_13 : decode cX7_laysOut 13 = .ok (.aload_n 0, 1) := by decide +kernel
theorem dX7_laysOut_14 : decode cX7_laysOut 14 = .ok (.iload_n 1, 1) := by decide +kernel
theorem dX7_laysOut_15 : decode cX7_laysOut 15 = .ok (.iload_n 2, 1) := by decide +kernel
theorem dX7_laysOut_16 : decode cX7_laysOut 16 = .ok (.invokevirtual 204, 3) := by decide +kernel
theorem dX7_laysOut_19 : decode cX7_laysOut 19 = .ok (.istore_n 3, 1) := by decide +kernel
theorem dX7_laysOut_20 : decode cX7_laysOut 20 = .ok (.iload_n 3, 1) := by decide +kernel
theorem dX7_laysOut_21 : decode cX7_laysOut 21 = .ok (.ifCond .le 29, 3) := by decide +kernel
theorem dX7_laysOut_24 : decode cX7_laysOut 24 = .ok (.aload_n 0, 1) := by decide +kernel
theorem dX7_laysOut_25 : decode cX7_laysOut 25 = .ok (.getfield 93, 3) := by decide +kernel
theorem dX7_laysOut_28 : decode cX7_laysOut 28 = .ok (.aload_n 0, 1) := by decide +kernel
theorem dX7_laysOut_29 : decode cX7_laysOut 29 = .ok (.getfield 207, 3) := by decide +kernel
theorem dX7_laysOut_32 : decode cX7_laysOut 32 = .ok (.iload_n 2, 1) := by decide +kernel
theorem dX7_laysOut_33 : decode cX7_laysOut 33 = .ok (.iastore, 1) := by decide +kernel
theorem dX7_laysOut_34 : decode cX7_laysOut 34 = .ok (.aload_n 0, 1) := by decide +kernel
theorem dX7_laysOut_35 : decode cX7_laysOut 35 = .ok (.dup, 1) := by decide +kernel
theorem dX7_laysOut_36 : decode cX7_laysOut 36 = .ok (.getfield 207, 3) := by decide +kernel
theorem dX7_laysOut_39 : decode cX7_laysOut 39 = .ok (.iconst 1, 1) := by decide +kernel
theorem dX7_laysOut_40 : decode cX7_laysOut 40 = .ok (.iadd, 1) := by decide +kernel
theorem dX7_laysOut_41 : decode cX7_laysOut 41 = .ok (.putfield 207, 3) := by decide +kernel
theorem dX7_laysOut_44 : decode cX7_laysOut 44 = .ok (.iinc 3 (-1), 3) := by decide +kernel
theorem dX7_laysOut_47 : decode cX7_laysOut 47 = .ok (.goto (-27), 3) := by decide +kernel
theorem dX7_laysOut_50 : decode cX7_laysOut 50 = .ok (.iinc 2 1, 3) := by decide +kernel
theorem dX7_laysOut_53 : decode cX7_laysOut 53 = .ok (.goto (-46), 3) := by decide +kernel
theorem dX7_laysOut_56 : decode cX7_laysOut 56 = .ok (.aload_n 0, 1) := by decide +kernel
theorem dX7_laysOut_57 : decode cX7_laysOut 57 = .ok (.iconst 0, 1) := by decide +kernel
theorem dX7_laysOut_58 : decode cX7_laysOut 58 = .ok (.putfield 210, 3) := by decide +kernel
theorem dX7_laysOut_61 : decode cX7_laysOut 61 = .ok (.iconst 0, 1) := by decide +kernel
theorem dX7_laysOut_62 : decode cX7_laysOut 62 = .ok (.istore_n 2, 1) := by decide +kernel
theorem dX7_laysOut_63 : decode cX7_laysOut 63 = .ok (.iload_n 2, 1) := by decide +kernel
theorem dX7_laysOut_64 : decode cX7_laysOut 64 = .ok (.aload_n 0, 1) := by decide +kernel
theorem dX7_laysOut_65 : decode cX7_laysOut 65 = .ok (.getfield 115, 3) := by decide +kernel
theorem dX7_laysOut_68 : decode cX7_laysOut 68 = .ok (.if_icmp .ge 82, 3) := by decide +kernel
theorem dX7_laysOut_71 : decode cX7_laysOut 71 = .ok (.aload_n 0, 1) := by decide +kernel
theorem dX7_laysOut_72 : decode cX7_laysOut 72 = .ok (.getfield 13, 3) := by decide +kernel
theorem dX7_laysOut_75 : decode cX7_laysOut 75 = .ok (.iload_n 2, 1) := by decide +kernel
theorem dX7_laysOut_76 : decode cX7_laysOut 76 = .ok (.iaload, 1) := by decide +kernel
theorem dX7_laysOut_77 : decode cX7_laysOut 77 = .ok (.iload_n 1, 1) := by decide +kernel
theorem dX7_laysOut_78 : decode cX7_laysOut 78 = .ok (.if_icmp .ne 66, 3) := by decide +kernel
theorem dX7_laysOut_81 : decode cX7_laysOut 81 = .ok (.aload_n 0, 1) := by decide +kernel
theorem dX7_laysOut_82 : decode cX7_laysOut 82 = .ok (.iload_n 2, 1) := by decide +kernel
theorem dX7_laysOut_83 : decode cX7_laysOut 83 = .ok (.invokevirtual 195, 3) := by decide +kernel
theorem dX7_laysOut_86 : decode cX7_laysOut 86 = .ok (.ifCond .eq 58, 3) := by decide +kernel
theorem dX7_laysOut_89 : decode cX7_laysOut 89 = .ok (.aload_n 0, 1) := by decide +kernel
theorem dX7_laysOut_90 : decode cX7_laysOut 90 = .ok (.iload_n 1, 1) := by decide +kernel
theorem dX7_laysOut_91 : decode cX7_laysOut 91 = .ok (.aload_n 0, 1) := by decide +kernel
theorem dX7_laysOut_92 : decode cX7_laysOut 92 = .ok (.iload_n 2, 1) := by decide +kernel
theorem dX7_laysOut_93 : decode cX7_laysOut 93 = .ok (.aload_n 0, 1) := by decide +kernel
theorem dX7_laysOut_94 : decode cX7_laysOut 94 = .ok (.getfield 152, 3) := by decide +kernel
theorem dX7_laysOut_97 : decode cX7_laysOut 97 = .ok (.invokevirtual 158, 3) := by decide +kernel
theorem dX7_laysOut_100 : decode cX7_laysOut 100 = .ok (.invokevirtual 204, 3) := by decide +kernel
theorem dX7_laysOut_103 : decode cX7_laysOut 103 = .ok (.ifCond .ne 41, 3) := by decide +kernel
theorem dX7_laysOut_106 : decode cX7_laysOut 106 = .ok (.aload_n 0, 1) := by decide +kernel
theorem dX7_laysOut_107 : decode cX7_laysOut 107 = .ok (.getfield 96, 3) := by decide +kernel
theorem dX7_laysOut_110 : decode cX7_laysOut 110 = .ok (.aload_n 0, 1) := by decide +kernel
theorem dX7_laysOut_111 : decode cX7_laysOut 111 = .ok (.getfield 210, 3) := by decide +kernel
theorem dX7_laysOut_114 : decode cX7_laysOut 114 = .ok (.iload_n 2, 1) := by decide +kernel
theorem dX7_laysOut_115 : decode cX7_laysOut 115 = .ok (.iastore, 1) := by decide +kernel
theorem dX7_laysOut_116 : decode cX7_laysOut 116 = .ok (.aload_n 0, 1) := by decide +kernel
theorem dX7_laysOut_117 : decode cX7_laysOut 117 = .ok (.getfield 99, 3) := by decide +kernel
theorem dX7_laysOut_120 : decode cX7_laysOut 120 = .ok (.aload_n 0, 1) := by decide +kernel
theorem dX7_laysOut_121 : decode cX7_laysOut 121 = .ok (.getfield 210, 3) := by decide +kernel
theorem dX7_laysOut_124 : decode cX7_laysOut 124 = .ok (.aload_n 0, 1) := by decide +kernel
theorem dX7_laysOut_125 : decode cX7_laysOut 125 = .ok (.iload_n 2, 1) := by decide +kernel
theorem dX7_laysOut_126 : decode cX7_laysOut 126 = .ok (.aload_n 0, 1) := by decide +kernel
theorem dX7_laysOut_127 : decode cX7_laysOut 127 = .ok (.getfield 152, 3) := by decide +kernel
theorem dX7_laysOut_130 : decode cX7_laysOut 130 = .ok (.invokevirtual 158, 3) := by decide +kernel
theorem dX7_laysOut_133 : decode cX7_laysOut 133 = .ok (.iastore, 1) := by decide +kernel
theorem dX7_laysOut_134 : decode cX7_laysOut 134 = .ok (.aload_n 0, 1) := by decide +kernel
theorem dX7_laysOut_135 : decode cX7_laysOut 135 = .ok (.dup, 1) := by decide +kernel
theorem dX7_laysOut_136 : decode cX7_laysOut 136 = .ok (.getfield 210, 3) := by decide +kernel
theorem dX7_laysOut_139 : decode cX7_laysOut 139 = .ok (.iconst 1, 1) := by decide +kernel
theorem dX7_laysOut_140 : decode cX7_laysOut 140 = .ok (.iadd, 1) := by decide +kernel
theorem dX7_laysOut_141 : decode cX7_laysOut 141 = .ok (.putfield 210, 3) := by decide +kernel
theorem dX7_laysOut_144 : decode cX7_laysOut 144 = .ok (.iinc 2 1, 3) := by decide +kernel
theorem dX7_laysOut_147 : decode cX7_laysOut 147 = .ok (.goto (-84), 3) := by decide +kernel
theorem dX7_laysOut_150 : decode cX7_laysOut 150 = .ok (.return_, 1) := by decide +kernel
theorem dX7_bits_0 : decode cX7_bits 0 = .ok (.iconst 0, 1) := by decide +kernel
theorem dX7_bits_1 : decode cX7_bits 1 = .ok (.istore_n 1, 1) := by decide +kernel
theorem dX7_bits_2 : decode cX7_bits 2 = .ok (.iload_n 0, 1) := by decide +kernel
theorem dX7_bits_3 : decode cX7_bits 3 = .ok (.istore_n 2, 1) := by decide +kernel
theorem dX7_bits_4 : decode cX7_bits 4 = .ok (.iload_n 2, 1) := by decide +kernel
theorem dX7_bits_5 : decode cX7_bits 5 = .ok (.ifCond .le 16, 3) := by decide +kernel
theorem dX7_bits_8 : decode cX7_bits 8 = .ok (.iload_n 1, 1) := by decide +kernel
theorem dX7_bits_9 : decode cX7_bits 9 = .ok (.iload_n 2, 1) := by decide +kernel
theorem dX7_bits_10 : decode cX7_bits 10 = .ok (.iconst 1, 1) := by decide +kernel
theorem dX7_bits_11 : decode cX7_bits 11 = .ok (.iand, 1) := by decide +kernel
theorem dX7_bits_12 : decode cX7_bits 12 = .ok (.iadd, 1) := by decide +kernel
theorem dX7_bits_13 : decode cX7_bits 13 = .ok (.istore_n 1, 1) := by decide +kernel
theorem dX7_bits_14 : decode cX7_bits 14 = .ok (.iload_n 2, 1) := by decide +kernel
theorem dX7_bits_15 : decode cX7_bits 15 = .ok (.iconst 1, 1) := by decide +kernel
theorem dX7_bits_16 : decode cX7_bits 16 = .ok (.ishr, 1) := by decide +kernel
theorem dX7_bits_17 : decode cX7_bits 17 = .ok (.istore_n 2, 1) := by decide +kernel
theorem dX7_bits_18 : decode cX7_bits 18 = .ok (.goto (-14), 3) := by decide +kernel
theorem dX7_bits_21 : decode cX7_bits 21 = .ok (.iload_n 1, 1) := by decide +kernel
theorem dX7_bits_22 : decode cX7_bits 22 = .ok (.ireturn, 1) := by decide +kernel
theorem dX7_isChosen_0 : decode cX7_isChosen 0 = .ok (.iconst 0, 1) := by decide +kernel
theorem dX7_isChosen_1 : decode cX7_isChosen 1 = .ok (.istore_n 3, 1) := by decide +kernel
theorem dX7_isChosen_2 : decode cX7_isChosen 2 = .ok (.iconst 0, 1) := by decide +kernel
theorem dX7_isChosen_3 : decode cX7_isChosen 3 = .ok (.istore 4, 2) := by decide +kernel
theorem dX7_isChosen_5 : decode cX7_isChosen 5 = .ok (.iload 4, 2) := by decide +kernel
theorem dX7_isChosen_7 : decode cX7_isChosen 7 = .ok (.iload_n 2, 1) := by decide +kernel
theorem dX7_isChosen_8 : decode cX7_isChosen 8 = .ok (.if_icmp .ge 30, 3) := by decide +kernel
theorem dX7_isChosen_11 : decode cX7_isChosen 11 = .ok (.iload_n 3, 1) := by decide +kernel
theorem dX7_isChosen_12 : decode cX7_isChosen 12 = .ok (.ifCond .ne 14, 3) := by decide +kernel
theorem dX7_isChosen_15 : decode cX7_isChosen 15 = .ok (.aload_n 0, 1) := by decide +kernel
theorem dX7_isChosen_16 : decode cX7_isChosen 16 = .ok (.getfield 102, 3) := by decide +kernel
theorem dX7_isChosen_19 : decode cX7_isChosen 19 = .ok (.iload 4, 2) := by decide +kernel
theorem dX7_isChosen_21 : decode cX7_isChosen 21 = .ok (.iaload, 1) := by decide +kernel
theorem dX7_isChosen_22 : decode cX7_isChosen 22 = .ok (.iload_n 1, 1) := by decide +kernel
theorem dX7_isChosen_23 : decode cX7_isChosen 23 = .ok (.if_icmp .ne 7, 3) := by decide +kernel
theorem dX7_isChosen_26 : decode cX7_isChosen 26 = .ok (.iconst 1, 1) := by decide +kernel
theorem dX7_isChosen_27 : decode cX7_isChosen 27 = .ok (.goto 4, 3) := by decide +kernel
theorem dX7_isChosen_30 : decode cX7_isChosen 30 = .ok (.iconst 0, 1) := by decide +kernel
theorem dX7_isChosen_31 : decode cX7_isChosen 31 = .ok (.istore_n 3, 1) := by decide +kernel
theorem dX7_isChosen_32 : decode cX7_isChosen 32 = .ok (.iinc 4 1, 3) := by decide +kernel
theorem dX7_isChosen_35 : decode cX7_isChosen 35 = .ok (.goto (-30), 3) := by decide +kernel
theorem dX7_isChosen_38 : decode cX7_isChosen 38 = .ok (.iload_n 3, 1) := by decide +kernel
theorem dX7_isChosen_39 : decode cX7_isChosen 39 = .ok (.ireturn, 1) := by decide +kernel
theorem dX7_bringing_0 : decode cX7_bringing 0 = .ok (.aload_n 0, 1) := by decide +kernel
theorem dX7_bringing_1 : decode cX7_bringing 1 = .ok (.getfield 7, 3) := by decide +kernel
theorem dX7_bringing_4 : decode cX7_bringing 4 = .ok (.bipush 6, 2) := by decide +kernel
theorem dX7_bringing_6 : decode cX7_bringing 6 = .ok (.aload_n 0, 1) := by decide +kernel
theorem dX7_bringing_7 : decode cX7_bringing 7 = .ok (.getfield 99, 3) := by decide +kernel
theorem dX7_bringing_10 : decode cX7_bringing 10 = .ok (.iload_n 1, 1) := by decide +kernel
theorem dX7_bringing_11 : decode cX7_bringing 11 = .ok (.iaload, 1) := by decide +kernel
theorem dX7_bringing_12 : decode cX7_bringing 12 = .ok (.imul, 1) := by decide +kernel
theorem dX7_bringing_13 : decode cX7_bringing 13 = .ok (.aload_n 0, 1) := by decide +kernel
theorem dX7_bringing_14 : decode cX7_bringing 14 = .ok (.getfield 93, 3) := by decide +kernel
theorem dX7_bringing_17 : decode cX7_bringing 17 = .ok (.iload_n 2, 1) := by decide +kernel
theorem dX7_bringing_18 : decode cX7_bringing 18 = .ok (.iaload, 1) := by decide +kernel
theorem dX7_bringing_19 : decode cX7_bringing 19 = .ok (.iadd, 1) := by decide +kernel
theorem dX7_bringing_20 : decode cX7_bringing 20 = .ok (.iaload, 1) := by decide +kernel
theorem dX7_bringing_21 : decode cX7_bringing 21 = .ok (.ireturn, 1) := by decide +kernel
theorem dX7_leastFrom_0 : decode cX7_leastFrom 0 = .ok (.iconst 0, 1) := by decide +kernel
theorem dX7_leastFrom_1 : decode cX7_leastFrom 1 = .ok (.istore_n 2, 1) := by decide +kernel
theorem dX7_leastFrom_2 : decode cX7_leastFrom 2 = .ok (.iconst 0, 1) := by decide +kernel
theorem dX7_leastFrom_3 : decode cX7_leastFrom 3 = .ok (.istore_n 3, 1) := by decide +kernel
theorem dX7_leastFrom_4 : decode cX7_leastFrom 4 = .ok (.iconst 0, 1) := by decide +kernel
theorem dX7_leastFrom_5 : decode cX7_leastFrom 5 = .ok (.istore 4, 2) := by decide +kernel
theorem dX7_leastFrom_7 : decode cX7_leastFrom 7 = .ok (.iload 4, 2) := by decide +kernel
theorem dX7_leastFrom_9 : decode cX7_leastFrom 9 = .ok (.iload_n 1, 1) := by decide +kernel
theorem dX7_leastFrom_10 : decode cX7_leastFrom 10 = .ok (.if_icmp .ge 59, 3) := by decide +kernel
theorem dX7_leastFrom_13 : decode cX7_leastFrom 13 = .ok (.iload_n 2, 1) := by decide +kernel
theorem dX7_leastFrom_14 : decode cX7_leastFrom 14 = .ok (.aload_n 0, 1) := by decide +kernel
theorem dX7_leastFrom_15 : decode cX7_leastFrom 15 = .ok (.getfield 102, 3) := by decide +kernel
theorem dX7_leastFrom_18 : decode cX7_leastFrom 18 = .ok (.iload 4, 2) := by decide +kernel
theorem dX7_leastFrom_20 : decode cX7_leastFrom 20 = .ok (.iaload, 1) := by decide +kernel
theorem dX7_leastFrom_21 : decode cX7_leastFrom 21 = .ok (.iconst (-1), 1) := by decide +kernel
theorem dX7_leastFrom_22 : decode cX7_leastFrom 22 = .ok (.if_icmp .ne 7, 3) := by decide +kernel
theorem dX7_leastFrom_25 : decode cX7_leastFrom 25 = .ok (.iconst 0, 1) := by decide +kernel
theorem dX7_leastFrom_26 : decode cX7_leastFrom 26 = .ok (.goto 4, 3) := by decide +kernel
theorem dX7_leastFrom_29 : decode cX7_leastFrom 29 = .ok (.iconst 1, 1) := by decide +kernel
theorem dX7_leastFrom_30 : decode cX7_leastFrom 30 = .ok (.iadd, 1) := by decide +kernel
theorem dX7_leastFrom_31 : decode cX7_leastFrom 31 = .ok (.istore_n 2, 1) := by decide +kernel
theorem dX7_leastFrom_32 : decode cX7_leastFrom 32 = .ok (.iload_n 3, 1) := by decide +kernel
theorem dX7_leastFrom_33 : decode cX7_leastFrom 33 = .ok (.aload_n 0, 1) := by decide +kernel
theorem dX7_leastFrom_34 : decode cX7_leastFrom 34 = .ok (.getfield 102, 3) := by decide +kernel
theorem dX7_leastFrom_37 : decode cX7_leastFrom 37 = .ok (.iload 4, 2) := by decide +kernel
theorem dX7_leastFrom_39 : decode cX7_leastFrom 39 = .ok (.iaload, 1) := by decide +kernel
theorem dX7_leastFrom_40 : decode cX7_leastFrom 40 = .ok (.iconst (-1), 1) := by decide +kernel
theorem dX7_leastFrom_41 : decode cX7_leastFrom 41 = .ok (.if_icmp .ne 7, 3) := by decide +kernel
theorem dX7_leastFrom_44 : decode cX7_leastFrom 44 = .ok (.iconst 0, 1) := by decide +kernel
theorem dX7_leastFrom_45 : decode cX7_leastFrom 45 = .ok (.goto 16, 3) := by decide +kernel
theorem dX7_leastFrom_48 : decode cX7_leastFrom 48 = .ok (.aload_n 0, 1) := by decide +kernel
theorem dX7_leastFrom_49 : decode cX7_leastFrom 49 = .ok (.aload_n 0, 1) := by decide +kernel
theorem dX7_leastFrom_50 : decode cX7_leastFrom 50 = .ok (.getfield 102, 3) := by decide +kernel
theorem dX7_leastFrom_53 : decode cX7_leastFrom 53 = .ok (.iload 4, 2) := by decide +kernel
theorem dX7_leastFrom_55 : decode cX7_leastFrom 55 = .ok (.iaload, 1) := by decide +kernel
theorem dX7_leastFrom_56 : decode cX7_leastFrom 56 = .ok (.iload 4, 2) := by decide +kernel
theorem dX7_leastFrom_58 : decode cX7_leastFrom 58 = .ok (.invokevirtual 213, 3) := by decide +kernel
theorem dX7_leastFrom_61 : decode cX7_leastFrom 61 = .ok (.iadd, 1) := by decide +kernel
theorem dX7_leastFrom_62 : decode cX7_leastFrom 62 = .ok (.istore_n 3, 1) := by decide +kernel
theorem dX7_leastFrom_63 : decode cX7_leastFrom 63 = .ok (.iinc 4 1, 3) := by decide +kernel
theorem dX7_leastFrom_66 : decode cX7_leastFrom 66 = .ok (.goto (-59), 3) := by decide +kernel
theorem dX7_leastFrom_69 : decode cX7_leastFrom 69 = .ok (.iconst 0, 1) := by decide +kernel
theorem dX7_leastFrom_70 : decode cX7_leastFrom 70 = .ok (.istore 4, 2) := by decide +kernel
theorem dX7_leastFrom_72 : decode cX7_leastFrom 72 = .ok (.iload 4, 2) := by decide +kernel
theorem dX7_leastFrom_74 : decode cX7_leastFrom 74 = .ok (.iconst 1, 1) := by decide +kernel
theorem dX7_leastFrom_75 : decode cX7_leastFrom 75 = .ok (.aload_n 0, 1) := by decide +kernel
theorem dX7_leastFrom_76 : decode cX7_leastFrom 76 = .ok (.getfield 207, 3) := by decide +kernel
theorem dX7_leastFrom_79 : decode cX7_leastFrom 79 = .ok (.ishl, 1) := by decide +kernel
theorem dX7_leastFrom_80 : decode cX7_leastFrom 80 = .ok (.if_icmp .ge 27, 3) := by decide +kernel
theorem dX7_leastFrom_83 : decode cX7_leastFrom 83 = .ok (.aload_n 0, 1) := by decide +kernel
theorem dX7_leastFrom_84 : decode cX7_leastFrom 84 = .ok (.getfield 105, 3) := by decide +kernel
theorem dX7_leastFrom_87 : decode cX7_leastFrom 87 = .ok (.iload 4, 2) := by decide +kernel
theorem dX7_leastFrom_89 : decode cX7_leastFrom 89 = .ok (.iload 4, 2) := by decide +kernel
theorem dX7_leastFrom_91 : decode cX7_leastFrom 91 = .ok (.ifCond .ne 7, 3) := by decide +kernel
theorem dX7_leastFrom_94 : decode cX7_leastFrom 94 = .ok (.iconst 0, 1) := by decide +kernel
theorem dX7_leastFrom_95 : decode cX7_leastFrom 95 = .ok (.goto 5, 3) := by decide +kernel
theorem dX7_leastFrom_98 : decode cX7_leastFrom 98 = .ok (.ldc 216, 2) := by decide +kernel
theorem dX7_leastFrom_100 : decode cX7_leastFrom 100 = .ok (.iastore, 1) := by decide +kernel
theorem dX7_leastFrom_101 : decode cX7_leastFrom 101 = .ok (.iinc 4 1, 3) := by decide +kernel
theorem dX7_leastFrom_104 : decode cX7_leastFrom 104 = .ok (.goto (-32), 3) := by decide +kernel
theorem dX7_leastFrom_107 : decode cX7_leastFrom 107 = .ok (.iconst 0, 1) := by decide +kernel
theorem dX7_leastFrom_108 : decode cX7_leastFrom 108 = .ok (.istore 4, 2) := by decide +kernel
theorem dX7_leastFrom_110 : decode cX7_leastFrom 110 = .ok (.iload 4, 2) := by decide +kernel
theorem dX7_leastFrom_112 : decode cX7_leastFrom 112 = .ok (.aload_n 0, 1) := by decide +kernel
theorem dX7_leastFrom_113 : decode cX7_leastFrom 113 = .ok (.getfield 210, 3) := by decide +kernel
theorem dX7_leastFrom_116 : decode cX7_leastFrom 116 = .ok (.if_icmp .ge 129, 3) := by decide +kernel
theorem dX7_leastFrom_119 : decode cX7_leastFrom 119 = .ok (.iconst 1, 1) := by decide +kernel
theorem dX7_leastFrom_120 : decode cX7_leastFrom 120 = .ok (.aload_n 0, 1) := by decide +kernel
theorem dX7_leastFrom_121 : decode cX7_leastFrom 121 = .ok (.getfield 207, 3) := by decide +kernel
theorem dX7_leastFrom_124 : decode cX7_leastFrom 124 = .ok (.ishl, 1) := by decide +kernel
theorem dX7_leastFrom_125 : decode cX7_leastFrom 125 = .ok (.iconst 1, 1) := by decide +kernel
theorem dX7_leastFrom_126 : decode cX7_leastFrom 126 = .ok (.isub, 1) := by decide +kernel
theorem dX7_leastFrom_127 : decode cX7_leastFrom 127 = .ok (.istore 5, 2) := by decide +kernel
theorem dX7_leastFrom_129 : decode cX7_leastFrom 129 = .ok (.iload 5, 2) := by decide +kernel
theorem dX7_leastFrom_131 : decode cX7_leastFrom 131 = .ok (.ifCond .le 108, 3) := by decide +kernel
theorem dX7_leastFrom_134 : decode cX7_leastFrom 134 = .ok (.aload_n 0, 1) := by decide +kernel
theorem dX7_leastFrom_135 : decode cX7_leastFrom 135 = .ok (.iload 4, 2) := by decide +kernel
theorem dX7_leastFrom_137 : decode cX7_leastFrom 137 = .ok (.iload_n 1, 1) := by decide +kernel
theorem dX7_leastFrom_138 : decode cX7_leastFrom 138 = .ok (.invokevirtual 217, 3) := by decide +kernel
theorem dX7_leastFrom_141 : decode cX7_leastFrom 141 = .ok (.ifCond .ne 98, 3) := by decide +kernel
theorem dX7_leastFrom_144 : decode cX7_leastFrom 144 = .ok (.iload_n 1, 1) := by decide +kernel
theorem dX7_leastFrom_145 : decode cX7_leastFrom 145 = .ok (.istore 6, 2) := by decide +kernel
theorem dX7_leastFrom_147 : decode cX7_leastFrom 147 = .ok (.iload 6, 2) := by decide +kernel
theorem dX7_leastFrom_149 : decode cX7_leastFrom 149 = .ok (.aload_n 0, 1) := by decide +kernel
theorem dX7_leastFrom_150 : decode cX7_leastFrom 150 = .ok (.getfield 207, 3) := by decide +kernel
theorem dX7_leastFrom_153 : decode cX7_leastFrom 153 = .ok (.if_icmp .ge 80, 3) := by decide +kernel
theorem dX7_leastFrom_156 : decode cX7_leastFrom 156 = .ok (.iload 5, 2) := by decide +kernel
theorem dX7_leastFrom_158 : decode cX7_leastFrom 158 = .ok (.iload 6, 2) := by decide +kernel
theorem dX7_leastFrom_160 : decode cX7_leastFrom 160 = .ok (.ishr, 1) := by decide +kernel
theorem dX7_leastFrom_161 : decode cX7_leastFrom 161 = .ok (.iconst 1, 1) := by decide +kernel
theorem dX7_leastFrom_162 : decode cX7_leastFrom 162 = .ok (.iand, 1) := by decide +kernel
theorem dX7_leastFrom_163 : decode cX7_leastFrom 163 = .ok (.ifCond .ne 8, 3) := by decide +kernel
theorem dX7_leastFrom_166 : decode cX7_leastFrom 166 = .ok (.ldc 216, 2) := by decide +kernel
theorem dX7_leastFrom_168 : decode cX7_leastFrom 168 = .ok (.goto 26, 3) := by decide +kernel
theorem dX7_leastFrom_171 : decode cX7_leastFrom 171 = .ok (.aload_n 0, 1) := by decide +kernel
theorem dX7_leastFrom_172 : decode cX7_leastFrom 172 = .ok (.getfield 105, 3) := by decide +kernel
theorem dX7_leastFrom_175 : decode cX7_leastFrom 175 = .ok (.iload 5, 2) := by decide +kernel
theorem dX7_leastFrom_177 : decode cX7_leastFrom 177 = .ok (.iconst 1, 1) := by decide +kernel
theorem dX7_leastFrom_178 : decode cX7_leastFrom 178 = .ok (.iload 6, 2) := by decide +kernel
theorem dX7_leastFrom_180 : decode cX7_leastFrom 180 = .ok (.ishl, 1) := by decide +kernel
theorem dX7_leastFrom_181 : decode cX7_leastFrom 181 = .ok (.iconst (-1), 1) := by decide +kernel
theorem dX7_leastFrom_182 : decode cX7_leastFrom 182 = .ok (.ixor, 1) := by decide +kernel
theorem dX7_leastFrom_183 : decode cX7_leastFrom 183 = .ok (.iand, 1) := by decide +kernel
theorem dX7_leastFrom_184 : decode cX7_leastFrom 184 = .ok (.iaload, 1) := by decide +kernel
theorem dX7_leastFrom_185 : decode cX7_leastFrom 185 = .ok (.aload_n 0, 1) := by decide +kernel
theorem dX7_leastFrom_186 : decode cX7_leastFrom 186 = .ok (.iload 4, 2) := by decide +kernel
theorem dX7_leastFrom_188 : decode cX7_leastFrom 188 = .ok (.iload 6, 2) := by decide +kernel
theorem dX7_leastFrom_190 : decode cX7_leastFrom 190 = .ok (.invokevirtual 213, 3) := by decide +kernel
theorem dX7_leastFrom_193 : decode cX7_leastFrom 193 = .ok (.iadd, 1) := by decide +kernel
theorem dX7_leastFrom_194 : decode cX7_leastFrom 194 = .ok (.istore 7, 2) := by decide +kernel
theorem dX7_leastFrom_196 : decode cX7_leastFrom 196 = .ok (.aload_n 0, 1) := by decide +kernel
theorem dX7_leastFrom_197 : decode cX7_leastFrom 197 = .ok (.getfield 105, 3) := by decide +kernel
theorem dX7_leastFrom_200 : decode cX7_leastFrom 200 = .ok (.iload 5, 2) := by decide +kernel
theorem dX7_leastFrom_202 : decode cX7_leastFrom 202 = .ok (.iload 7, 2) := by decide +kernel
theorem dX7_leastFrom_204 : decode cX7_leastFrom 204 = .ok (.aload_n 0, 1) := by decide +kernel
theorem dX7_leastFrom_205 : decode cX7_leastFrom 205 = .ok (.getfield 105, 3) := by decide +kernel
theorem dX7_leastFrom_208 : decode cX7_leastFrom 208 = .ok (.iload 5, 2) := by decide +kernel
theorem dX7_leastFrom_210 : decode cX7_leastFrom 210 = .ok (.iaload, 1) := by decide +kernel
theorem dX7_leastFrom_211 : decode cX7_leastFrom 211 = .ok (.if_icmp .ge 8, 3) := by decide +kernel
theorem dX7_leastFrom_214 : decode cX7_leastFrom 214 = .ok (.iload 7, 2) := by decide +kernel
theorem dX7_leastFrom_216 : decode cX7_leastFrom 216 = .ok (.goto 10, 3) := by decide +kernel
theorem dX7_leastFrom_219 : decode cX7_leastFrom 219 = .ok (.aload_n 0, 1) := by decide +kernel
theorem dX7_leastFrom_220 : decode cX7_leastFrom 220 = .ok (.getfield 105, 3) := by decide +kernel
theorem dX7_leastFrom_223 : decode cX7_leastFrom 223 = .ok (.iload 5, 2) := by decide +kernel
theorem dX7_leastFrom_225 : decode cX7_leastFrom 225 = .ok (.iaload, 1) := by decide +kernel
theorem dX7_leastFrom_226 : decode cX7_leastFrom 226 = .ok (.iastore, 1) := by decide +kernel
theorem dX7_leastFrom_227 : decode cX7_leastFrom 227 = .ok (.iinc 6 1, 3) := by decide +kernel
theorem dX7_leastFrom_230 : decode cX7_leastFrom 230 = .ok (.goto (-83), 3) := by decide +kernel
theorem dX7_leastFrom_233 : decode cX7_leastFrom 233 = .ok (.iinc 5 (-1), 3) := by decide +kernel
theorem dX7_leastFrom_236 : decode cX7_leastFrom 236 = .ok (.goto (-107), 3) := by decide +kernel
theorem dX7_leastFrom_239 : decode cX7_leastFrom 239 = .ok (.iinc 4 1, 3) := by decide +kernel
theorem dX7_leastFrom_242 : decode cX7_leastFrom 242 = .ok (.goto (-132), 3) := by decide +kernel
theorem dX7_leastFrom_245 : decode cX7_leastFrom 245 = .ok (.aload_n 0, 1) := by decide +kernel
theorem dX7_leastFrom_246 : decode cX7_leastFrom 246 = .ok (.getfield 207, 3) := by decide +kernel
theorem dX7_leastFrom_249 : decode cX7_leastFrom 249 = .ok (.aload_n 0, 1) := by decide +kernel
theorem dX7_leastFrom_250 : decode cX7_leastFrom 250 = .ok (.getfield 210, 3) := by decide +kernel
theorem dX7_leastFrom_253 : decode cX7_leastFrom 253 = .ok (.if_icmp .ge 10, 3) := by decide +kernel
theorem dX7_leastFrom_256 : decode cX7_leastFrom 256 = .ok (.aload_n 0, 1) := by decide +kernel
theorem dX7_leastFrom_257 : decode cX7_leastFrom 257 = .ok (.getfield 207, 3) := by decide +kernel
theorem dX7_leastFrom_260 : decode cX7_leastFrom 260 = .ok (.goto 7, 3) := by decide +kernel
theorem dX7_leastFrom_263 : decode cX7_leastFrom 263 = .ok (.aload_n 0, 1) := by decide +kernel
theorem dX7_leastFrom_264 : decode cX7_leastFrom 264 = .ok (.getfield 210, 3) := by decide +kernel
theorem dX7_leastFrom_267 : decode cX7_leastFrom 267 = .ok (.istore 4, 2) := by decide +kernel
theorem dX7_leastFrom_269 : decode cX7_leastFrom 269 = .ok (.ldc 216, 2) := by decide +kernel
theorem dX7_leastFrom_271 : decode cX7_leastFrom 271 = .ok (.istore 5, 2) := by decide +kernel
theorem dX7_leastFrom_273 : decode cX7_leastFrom 273 = .ok (.iconst 0, 1) := by decide +kernel
theorem dX7_leastFrom_274 : decode cX7_leastFrom 274 = .ok (.istore 6, 2) := by decide +kernel
theorem dX7_leastFrom_276 : decode cX7_leastFrom 276 = .ok (.iload 6, 2) := by decide +kernel
theorem dX7_leastFrom_278 : decode cX7_leastFrom 278 = .ok (.iconst 1, 1) := by decide +kernel
theorem dX7_leastFrom_279 : decode cX7_leastFrom 279 = .ok (.aload_n 0, 1) := by decide +kernel
theorem dX7_leastFrom_280 : decode cX7_leastFrom 280 = .ok (.getfield 207, 3) := by decide +kernel
theorem dX7_leastFrom_283 : decode cX7_leastFrom 283 = .ok (.ishl, 1) := by decide +kernel
theorem dX7_leastFrom_284 : decode cX7_leastFrom 284 = .ok (.if_icmp .ge 47, 3) := by decide +kernel
theorem dX7_leastFrom_287 : decode cX7_leastFrom 287 = .ok (.iload 6, 2) := by decide +kernel
theorem dX7_leastFrom_289 : decode cX7_leastFrom 289 = .ok (.invokestatic 220, 3) := by decide +kernel
theorem dX7_leastFrom_292 : decode cX7_leastFrom 292 = .ok (.iload_n 2, 1) := by decide +kernel
theorem dX7_leastFrom_293 : decode cX7_leastFrom 293 = .ok (.iadd, 1) := by decide +kernel
theorem dX7_leastFrom_294 : decode cX7_leastFrom 294 = .ok (.iload 4, 2) := by decide +kernel
theorem dX7_leastFrom_296 : decode cX7_leastFrom 296 = .ok (.if_icmp .ne 25, 3) := by decide +kernel
theorem dX7_leastFrom_299 : decode cX7_leastFrom 299 = .ok (.aload_n 0, 1) := by decide +kernel
theorem dX7_leastFrom_300 : decode cX7_leastFrom 300 = .ok (.getfield 105, 3) := by decide +kernel
theorem dX7_leastFrom_303 : decode cX7_leastFrom 303 = .ok (.iload 6, 2) := by decide +kernel
theorem dX7_leastFrom_305 : decode cX7_leastFrom 305 = .ok (.iaload, 1) := by decide +kernel
theorem dX7_leastFrom_306 : decode cX7_leastFrom 306 = .ok (.iload 5, 2) := by decide +kernel
theorem dX7_leastFrom_308 : decode cX7_leastFrom 308 = .ok (.if_icmp .ge 13, 3) := by decide +kernel
theorem dX7_leastFrom_311 : decode cX7_leastFrom 311 = .ok (.aload_n 0, 1) := by decide +kernel
theorem dX7_leastFrom_312 : decode cX7_leastFrom 312 = .ok (.getfield 105, 3) := by decide +kernel
theorem dX7_leastFrom_315 : decode cX7_leastFrom 315 = .ok (.iload 6, 2) := by decide +kernel
theorem dX7_leastFrom_317 : decode cX7_leastFrom 317 = .ok (.iaload, 1) := by decide +kernel
theorem dX7_leastFrom_318 : decode cX7_leastFrom 318 = .ok (.goto 5, 3) := by decide +kernel
theorem dX7_leastFrom_321 : decode cX7_leastFrom 321 = .ok (.iload 5, 2) := by decide +kernel
theorem dX7_leastFrom_323 : decode cX7_leastFrom 323 = .ok (.istore 5, 2) := by decide +kernel
theorem dX7_leastFrom_325 : decode cX7_leastFrom 325 = .ok (.iinc 6 1, 3) := by decide +kernel
theorem dX7_leastFrom_328 : decode cX7_leastFrom 328 = .ok (.goto (-52), 3) := by decide +kernel
theorem dX7_leastFrom_331 : decode cX7_leastFrom 331 = .ok (.iload 5, 2) := by decide +kernel
theorem dX7_leastFrom_333 : decode cX7_leastFrom 333 = .ok (.ldc 216, 2) := by decide +kernel
theorem dX7_leastFrom_335 : decode cX7_leastFrom 335 = .ok (.if_icmp .ne 8, 3) := by decide +kernel
theorem dX7_leastFrom_338 : decode cX7_leastFrom 338 = .ok (.ldc 216, 2) := by decide +kernel
theorem dX7_leastFrom_340 : decode cX7_leastFrom 340 = .ok (.goto 7, 3) := by decide +kernel
theorem dX7_leastFrom_343 : decode cX7_leastFrom 343 = .ok (.iload_n 3, 1) := by decide +kernel
theorem dX7_leastFrom_344 : decode cX7_leastFrom 344 = .ok (.iload 5, 2) := by decide +kernel
theorem dX7_leastFrom_346 : decode cX7_leastFrom 346 = .ok (.iadd, 1) := by decide +kernel
theorem dX7_leastFrom_347 : decode cX7_leastFrom 347 = .ok (.ireturn, 1) := by decide +kernel
theorem dX7_plans_0 : decode cX7_plans 0 = .ok (.aload_n 0, 1) := by decide +kernel
theorem dX7_plans_1 : decode cX7_plans 1 = .ok (.iload_n 1, 1) := by decide +kernel
theorem dX7_plans_2 : decode cX7_plans 2 = .ok (.invokevirtual 223, 3) := by decide +kernel
theorem dX7_plans_5 : decode cX7_plans 5 = .ok (.aload_n 0, 1) := by decide +kernel
theorem dX7_plans_6 : decode cX7_plans 6 = .ok (.iconst 0, 1) := by decide +kernel
theorem dX7_plans_7 : decode cX7_plans 7 = .ok (.invokevirtual 227, 3) := by decide +kernel
theorem dX7_plans_10 : decode cX7_plans 10 = .ok (.istore_n 2, 1) := by decide +kernel
theorem dX7_plans_11 : decode cX7_plans 11 = .ok (.iconst 0, 1) := by decide +kernel
theorem dX7_plans_12 : decode cX7_plans 12 = .ok (.istore_n 3, 1) := by decide +kernel
theorem dX7_plans_13 : decode cX7_plans 13 = .ok (.iload_n 3, 1) := by decide +kernel
theorem dX7_plans_14 : decode cX7_plans 14 = .ok (.aload_n 0, 1) := by decide +kernel
theorem dX7_plans_15 : decode cX7_plans 15 = .ok (.getfield 207, 3) := by decide +kernel
theorem dX7_plans_18 : decode cX7_plans 18 = .ok (.if_icmp .ge 84, 3) := by decide +kernel
theorem dX7_plans_21 : decode cX7_plans 21 = .ok (.iconst 0, 1) := by decide +kernel
theorem dX7_plans_22 : decode cX7_plans 22 = .ok (.istore 4, 2) := by decide +kernel
theorem dX7_plans_24 : decode cX7_plans 24 = .ok (.aload_n 0, 1) := by decide +kernel
theorem dX7_plans_25 : decode cX7_plans 25 = .ok (.getfield 102, 3) := by decide +kernel
theorem dX7_plans_28 : decode cX7_plans 28 = .ok (.iload_n 3, 1) := by decide +kernel
theorem dX7_plans_29 : decode cX7_plans 29 = .ok (.iconst 0, 1) := by decide +kernel
theorem dX7_plans_30 : decode cX7_plans 30 = .ok (.iastore, 1) := by decide +kernel
theorem dX7_plans_31 : decode cX7_plans 31 = .ok (.iload 4, 2) := by decide +kernel
theorem dX7_plans_33 : decode cX7_plans 33 = .ok (.aload_n 0, 1) := by decide +kernel
theorem dX7_plans_34 : decode cX7_plans 34 = .ok (.getfield 210, 3) := by decide +kernel
theorem dX7_plans_37 : decode cX7_plans 37 = .ok (.if_icmp .ge 38, 3) := by decide +kernel
theorem dX7_plans_40 : decode cX7_plans 40 = .ok (.aload_n 0, 1) := by decide +kernel
theorem dX7_plans_41 : decode cX7_plans 41 = .ok (.iload 4, 2) := by decide +kernel
theorem dX7_plans_43 : decode cX7_plans 43 = .ok (.iload_n 3, 1) := by decide +kernel
theorem dX7_plans_44 : decode cX7_plans 44 = .ok (.invokevirtual 217, 3) := by decide +kernel
theorem dX7_plans_47 : decode cX7_plans 47 = .ok (.ifCond .ne 14, 3) := by decide +kernel
theorem dX7_plans_50 : decode cX7_plans 50 = .ok (.aload_n 0, 1) := by decide +kernel
theorem dX7_plans_51 : decode cX7_plans 51 = .ok (.iload_n 3, 1) := by decide +kernel
theorem dX7_plans_52 : decode cX7_plans 52 = .ok (.iconst 1, 1) := by decide +kernel
theorem dX7_plans_53 : decode cX7_plans 53 = .ok (.iadd, 1) := by decide +kernel
theorem dX7_plans_54 : decode cX7_plans 54 = .ok (.invokevirtual 227, 3) := by decide +kernel
theorem dX7_plans_57 : decode cX7_plans 57 = .ok (.iload_n 2, 1) := by decide +kernel
theorem dX7_plans_58 : decode cX7_plans 58 = .ok (.if_icmp .eq 17, 3) := by decide +kernel
theorem dX7_plans_61 : decode cX7_plans 61 = .ok (.iinc 4 1, 3) := by decide +kernel
theorem dX7_plans_64 : decode cX7_plans 64 = .ok (.aload_n 0, 1) := by decide +kernel
theorem dX7_plans_65 : decode cX7_plans 65 = .ok (.getfield 102, 3) := by decide +kernel
theorem dX7_plans_68 : decode cX7_plans 68 = .ok (.iload_n 3, 1) := by decide +kernel
theorem dX7_plans_69 : decode cX7_plans 69 = .ok (.iload 4, 2) := by decide +kernel
theorem dX7_plans_71 : decode cX7_plans 71 = .ok (.iastore, 1) := by decide +kernel
theorem dX7_plans_72 : decode cX7_plans 72 = .ok (.goto (-41), 3) := by decide +kernel
theorem dX7_plans_75 : decode cX7_plans 75 = .ok (.aload_n 0, 1) := by decide +kernel
theorem dX7_plans_76 : decode cX7_plans 76 = .ok (.getfield 102, 3) := by decide +kernel
theorem dX7_plans_79 : decode cX7_plans 79 = .ok (.iload_n 3, 1) := by decide +kernel
theorem dX7_plans_80 : decode cX7_plans 80 = .ok (.iload 4, 2) := by decide +kernel
theorem dX7_plans_82 : decode cX7_plans 82 = .ok (.aload_n 0, 1) := by decide +kernel
theorem dX7_plans_83 : decode cX7_plans 83 = .ok (.getfield 210, 3) := by decide +kernel
theorem dX7_plans_86 : decode cX7_plans 86 = .ok (.if_icmp .ge 8, 3) := by decide +kernel
theorem dX7_plans_89 : decode cX7_plans 89 = .ok (.iload 4, 2) := by decide +kernel
theorem dX7_plans_91 : decode cX7_plans 91 = .ok (.goto 4, 3) := by decide +kernel
theorem dX7_plans_94 : decode cX7_plans 94 = .ok (.iconst (-1), 1) := by decide +kernel
theorem dX7_plans_95 : decode cX7_plans 95 = .ok (.iastore, 1) := by decide +kernel
theorem dX7_plans_96 : decode cX7_plans 96 = .ok (.iinc 3 1, 3) := by decide +kernel
theorem dX7_plans_99 : decode cX7_plans 99 = .ok (.goto (-86), 3) := by decide +kernel
theorem dX7_plans_102 : decode cX7_plans 102 = .ok (.iload_n 2, 1) := by decide +kernel
theorem dX7_plans_103 : decode cX7_plans 103 = .ok (.ireturn, 1) := by decide +kernel
theorem dX7_bring_0 : decode cX7_bring 0 = .ok (.iload_n 1, 1) := by decide +kernel
theorem dX7_bring_1 : decode cX7_bring 1 = .ok (.invokestatic 128, 3) := by decide +kernel
theorem dX7_bring_4 : decode cX7_bring 4 = .ok (.istore_n 2, 1) := by decide +kernel
theorem dX7_bring_5 : decode cX7_bring 5 = .ok (.aload_n 0, 1) := by decide +kernel
theorem dX7_bring_6 : decode cX7_bring 6 = .ok (.iload_n 2, 1) := by decide +kernel
theorem dX7_bring_7 : decode cX7_bring 7 = .ok (.ifCond .ne 7, 3) := by decide +kernel
theorem dX7_bring_10 : decode cX7_bring 10 = .ok (.iconst 1, 1) := by decide +kernel
theorem dX7_bring_11 : decode cX7_bring 11 = .ok (.goto 17, 3) := by decide +kernel
theorem dX7_bring_14 : decode cX7_bring 14 = .ok (.aload_n 0, 1) := by decide +kernel
theorem dX7_bring_15 : decode cX7_bring 15 = .ok (.iload_n 1, 1) := by decide +kernel
theorem dX7_bring_16 : decode cX7_bring 16 = .ok (.invokevirtual 230, 3) := by decide +kernel
theorem dX7_bring_19 : decode cX7_bring 19 = .ok (.iconst 5, 1) := by decide +kernel
theorem dX7_bring_20 : decode cX7_bring 20 = .ok (.if_icmp .le 7, 3) := by decide +kernel
theorem dX7_bring_23 : decode cX7_bring 23 = .ok (.iconst 2, 1) := by decide +kernel
theorem dX7_bring_24 : decode cX7_bring 24 = .ok (.goto 4, 3) := by decide +kernel
theorem dX7_bring_27 : decode cX7_bring 27 = .ok (.iconst 0, 1) := by decide +kernel
theorem dX7_bring_28 : decode cX7_bring 28 = .ok (.invokevirtual 125, 3) := by decide +kernel
theorem dX7_bring_31 : decode cX7_bring 31 = .ok (.ifCond .eq 11, 3) := by decide +kernel
theorem dX7_bring_34 : decode cX7_bring 34 = .ok (.aload_n 0, 1) := by decide +kernel
theorem dX7_bring_35 : decode cX7_bring 35 = .ok (.iload_n 1, 1) := by decide +kernel
theorem dX7_bring_36 : decode cX7_bring 36 = .ok (.invokevirtual 233, 3) := by decide +kernel
theorem dX7_bring_39 : decode cX7_bring 39 = .ok (.goto 4, 3) := by decide +kernel
theorem dX7_bring_42 : decode cX7_bring 42 = .ok (.iconst 0, 1) := by decide +kernel
theorem dX7_bring_43 : decode cX7_bring 43 = .ok (.ireturn, 1) := by decide +kernel
theorem dX7_broughtFor_0 : decode cX7_broughtFor 0 = .ok (.aload_n 0, 1) := by decide +kernel
theorem dX7_broughtFor_1 : decode cX7_broughtFor 1 = .ok (.iload_n 1, 1) := by decide +kernel
theorem dX7_broughtFor_2 : decode cX7_broughtFor 2 = .ok (.invokevirtual 233, 3) := by decide +kernel
theorem dX7_broughtFor_5 : decode cX7_broughtFor 5 = .ok (.istore_n 3, 1) := by decide +kernel
theorem dX7_broughtFor_6 : decode cX7_broughtFor 6 = .ok (.iload_n 3, 1) := by decide +kernel
theorem dX7_broughtFor_7 : decode cX7_broughtFor 7 = .ok (.ifCond .lt 21, 3) := by decide +kernel
theorem dX7_broughtFor_10 : decode cX7_broughtFor 10 = .ok (.iload_n 2, 1) := by decide +kernel
theorem dX7_broughtFor_11 : decode cX7_broughtFor 11 = .ok (.aload_n 0, 1) := by decide +kernel
theorem dX7_broughtFor_12 : decode cX7_broughtFor 12 = .ok (.getfield 207, 3) := by decide +kernel
theorem dX7_broughtFor_15 : decode cX7_broughtFor 15 = .ok (.if_icmp .ge 13, 3) := by decide +kernel
theorem dX7_broughtFor_18 : decode cX7_broughtFor 18 = .ok (.aload_n 0, 1) := by decide +kernel
theorem dX7_broughtFor_19 : decode cX7_broughtFor 19 = .ok (.getfield 102, 3) := by decide +kernel
theorem dX7_broughtFor_22 : decode cX7_broughtFor 22 = .ok (.iload_n 2, 1) := by decide +kernel
theorem dX7_broughtFor_23 : decode cX7_broughtFor 23 = .ok (.iaload, 1) := by decide +kernel
theorem dX7_broughtFor_24 : decode cX7_broughtFor 24 = .ok (.iconst (-1), 1) := by decide +kernel
theorem dX7_broughtFor_25 : decode cX7_broughtFor 25 = .ok (.if_icmp .ne 7, 3) := by decide +kernel
theorem dX7_broughtFor_28 : decode cX7_broughtFor 28 = .ok (.iconst (-1), 1) := by decide +kernel
theorem dX7_broughtFor_29 : decode cX7_broughtFor 29 = .ok (.goto 14, 3) := by decide +kernel
theorem dX7_broughtFor_32 : decode cX7_broughtFor 32 = .ok (.aload_n 0, 1) := by decide +kernel
theorem dX7_broughtFor_33 : decode cX7_broughtFor 33 = .ok (.getfield 96, 3) := by decide +kernel
theorem dX7_broughtFor_36 : decode cX7_broughtFor 36 = .ok (.aload_n 0, 1) := by decide +kernel
theorem dX7_broughtFor_37 : decode cX7_broughtFor 37 = .ok (.getfield 102, 3) := by decide +kernel
theorem dX7_broughtFor_40 : decode cX7_broughtFor 40 = .ok (.iload_n 2, 1) := by decide +kernel
theorem dX7_broughtFor_41 : decode cX7_broughtFor 41 = .ok (.iaload, 1) := by decide +kernel
theorem dX7_broughtFor_42 : decode cX7_broughtFor 42 = .ok (.iaload, 1) := by decide +kernel
theorem dX7_broughtFor_43 : decode cX7_broughtFor 43 = .ok (.ireturn, 1) := by decide +kernel
theorem dX7_brings_0 : decode cX7_brings 0 = .ok (.iload_n 1, 1) := by decide +kernel
theorem dX7_brings_1 : decode cX7_brings 1 = .ok (.invokestatic 128, 3) := by decide +kernel
theorem dX7_brings_4 : decode cX7_brings 4 = .ok (.istore_n 3, 1) := by decide +kernel
theorem dX7_brings_5 : decode cX7_brings 5 = .ok (.aload_n 0, 1) := by decide +kernel
theorem dX7_brings_6 : decode cX7_brings 6 = .ok (.iload_n 3, 1) := by decide +kernel
theorem dX7_brings_7 : decode cX7_brings 7 = .ok (.ifCond .ne 7, 3) := by decide +kernel
theorem dX7_brings_10 : decode cX7_brings 10 = .ok (.iconst 1, 1) := by decide +kernel
theorem dX7_brings_11 : decode cX7_brings 11 = .ok (.goto 25, 3) := by decide +kernel
theorem dX7_brings_14 : decode cX7_brings 14 = .ok (.iload_n 2, 1) := by decide +kernel
theorem dX7_brings_15 : decode cX7_brings 15 = .ok (.ifCond .ge 7, 3) := by decide +kernel
theorem dX7_brings_18 : decode cX7_brings 18 = .ok (.iconst 2, 1) := by decide +kernel
theorem dX7_brings_19 : decode cX7_brings 19 = .ok (.goto 17, 3) := by decide +kernel
theorem dX7_brings_22 : decode cX7_brings 22 = .ok (.aload_n 0, 1) := by decide +kernel
theorem dX7_brings_23 : decode cX7_brings 23 = .ok (.iload_n 1, 1) := by decide +kernel
theorem dX7_brings_24 : decode cX7_brings 24 = .ok (.invokevirtual 230, 3) := by decide +kernel
theorem dX7_brings_27 : decode cX7_brings 27 = .ok (.iconst 5, 1) := by decide +kernel
theorem dX7_brings_28 : decode cX7_brings 28 = .ok (.if_icmp .le 7, 3) := by decide +kernel
theorem dX7_brings_31 : decode cX7_brings 31 = .ok (.iconst 3, 1) := by decide +kernel
theorem dX7_brings_32 : decode cX7_brings 32 = .ok (.goto 4, 3) := by decide +kernel
theorem dX7_brings_35 : decode cX7_brings 35 = .ok (.iconst 0, 1) := by decide +kernel
theorem dX7_brings_36 : decode cX7_brings 36 = .ok (.invokevirtual 125, 3) := by decide +kernel
theorem dX7_brings_39 : decode cX7_brings 39 = .ok (.ifCond .eq 12, 3) := by decide +kernel
theorem dX7_brings_42 : decode cX7_brings 42 = .ok (.aload_n 0, 1) := by decide +kernel
theorem dX7_brings_43 : decode cX7_brings 43 = .ok (.iload_n 1, 1) := by decide +kernel
theorem dX7_brings_44 : decode cX7_brings 44 = .ok (.iload_n 2, 1) := by decide +kernel
theorem dX7_brings_45 : decode cX7_brings 45 = .ok (.invokevirtual 236, 3) := by decide +kernel
theorem dX7_brings_48 : decode cX7_brings 48 = .ok (.goto 4, 3) := by decide +kernel
theorem dX7_brings_51 : decode cX7_brings 51 = .ok (.iconst 0, 1) := by decide +kernel
theorem dX7_brings_52 : decode cX7_brings 52 = .ok (.ireturn, 1) := by decide +kernel
theorem dX7_told_0 : decode cX7_told 0 = .ok (.iload_n 2, 1) := by decide +kernel
theorem dX7_told_1 : decode cX7_told 1 = .ok (.tableswitch 105 0 6 #[43, 50, 57, 71, 86, 93, 99], 43) := by decide +kernel
theorem dX7_told_44 : decode cX7_told 44 = .ok (.aload_n 0, 1) := by decide +kernel
theorem dX7_told_45 : decode cX7_told 45 = .ok (.getfield 13, 3) := by decide +kernel
theorem dX7_told_48 : decode cX7_told 48 = .ok (.iload_n 1, 1) := by decide +kernel
theorem dX7_told_49 : decode cX7_told 49 = .ok (.iaload, 1) := by decide +kernel
theorem dX7_told_50 : decode cX7_told 50 = .ok (.ireturn, 1) := by decide +kernel
theorem dX7_told_51 : decode cX7_told 51 = .ok (.aload_n 0, 1) := by decide +kernel
theorem dX7_told_52 : decode cX7_told 52 = .ok (.getfield 16, 3) := by decide +kernel
theorem dX7_told_55 : decode cX7_told 55 = .ok (.iload_n 1, 1) := by decide +kernel
theorem dX7_told_56 : decode cX7_told 56 = .ok (.iaload, 1) := by decide +kernel
theorem dX7_told_57 : decode cX7_told 57 = .ok (.ireturn, 1) := by decide +kernel
theorem dX7_told_58 : decode cX7_told 58 = .ok (.aload_n 0, 1) := by decide +kernel
theorem dX7_told_59 : decode cX7_told 59 = .ok (.iload_n 1, 1) := by decide +kernel
theorem dX7_told_60 : decode cX7_told 60 = .ok (.invokevirtual 134, 3) := by decide +kernel
theorem dX7_told_63 : decode cX7_told 63 = .ok (.ifCond .eq 7, 3) := by decide +kernel
theorem dX7_told_66 : decode cX7_told 66 = .ok (.iconst 1, 1) := by decide +kernel
theorem dX7_told_67 : decode cX7_told 67 = .ok (.goto 4, 3) := by decide +kernel
theorem dX7_told_70 : decode cX7_told 70 = .ok (.iconst 0, 1) := by decide +kernel
theorem dX7_told_71 : decode cX7_told 71 = .ok (.ireturn, 1) := by decide +kernel
theorem dX7_told_72 : decode cX7_told 72 = .ok (.aload_n 0, 1) := by decide +kernel
theorem dX7_told_73 : decode cX7_told 73 = .ok (.getfield 22, 3) := by decide +kernel
theorem dX7_told_76 : decode cX7_told 76 = .ok (.iload_n 1, 1) := by decide +kernel
theorem dX7_told_77 : decode cX7_told 77 = .ok (.baload, 1) := by decide +kernel
theorem dX7_told_78 : decode cX7_told 78 = .ok (.ifCond .eq 7, 3) := by decide +kernel
theorem dX7_told_81 : decode cX7_told 81 = .ok (.iconst 1, 1) := by decide +kernel
theorem dX7_told_82 : decode cX7_told 82 = .ok (.goto 4, 3) := by decide +kernel
theorem dX7_told_85 : decode cX7_told 85 = .ok (.iconst 0, 1) := by decide +kernel
theorem dX7_told_86 : decode cX7_told 86 = .ok (.ireturn, 1) := by decide +kernel
theorem dX7_told_87 : decode cX7_told 87 = .ok (.aload_n 0, 1) := by decide +kernel
theorem dX7_told_88 : decode cX7_told 88 = .ok (.getfield 29, 3) := by decide +kernel
theorem dX7_told_91 : decode cX7_told 91 = .ok (.iload_n 1, 1) := by decide +kernel
theorem dX7_told_92 : decode cX7_told 92 = .ok (.iaload, 1) := by decide +kernel
theorem dX7_told_93 : decode cX7_told 93 = .ok (.ireturn, 1) := by decide +kernel
theorem dX7_told_94 : decode cX7_told 94 = .ok (.aload_n 0, 1) := by decide +kernel
theorem dX7_told_95 : decode cX7_told 95 = .ok (.iload_n 1, 1) := by decide +kernel
theorem dX7_told_96 : decode cX7_told 96 = .ok (.invokevirtual 183, 3) := by decide +kernel
theorem dX7_told_99 : decode cX7_told 99 = .ok (.ireturn, 1) := by decide +kernel
theorem dX7_told_100 : decode cX7_told 100 = .ok (.aload_n 0, 1) := by decide +kernel
theorem dX7_told_101 : decode cX7_told 101 = .ok (.iload_n 1, 1) := by decide +kernel
theorem dX7_told_102 : decode cX7_told 102 = .ok (.invokevirtual 148, 3) := by decide +kernel
theorem dX7_told_105 : decode cX7_told 105 = .ok (.ireturn, 1) := by decide +kernel
theorem dX7_told_106 : decode cX7_told 106 = .ok (.aload_n 0, 1) := by decide +kernel
theorem dX7_told_107 : decode cX7_told 107 = .ok (.iload_n 1, 1) := by decide +kernel
theorem dX7_told_108 : decode cX7_told 108 = .ok (.aload_n 0, 1) := by decide +kernel
theorem dX7_told_109 : decode cX7_told 109 = .ok (.getfield 152, 3) := by decide +kernel
theorem dX7_told_112 : decode cX7_told 112 = .ok (.invokevirtual 165, 3) := by decide +kernel
theorem dX7_told_115 : decode cX7_told 115 = .ok (.ifCond .eq 7, 3) := by decide +kernel
theorem dX7_told_118 : decode cX7_told 118 = .ok (.iconst 1, 1) := by decide +kernel
theorem dX7_told_119 : decode cX7_told 119 = .ok (.goto 4, 3) := by decide +kernel
theorem dX7_told_122 : decode cX7_told 122 = .ok (.iconst 0, 1) := by decide +kernel
theorem dX7_told_123 : decode cX7_told 123 = .ok (.ireturn, 1) := by decide +kernel
theorem dX7_boxIs_0 : decode cX7_boxIs 0 = .ok (.aload_n 0, 1) := by decide +kernel
theorem dX7_boxIs_1 : decode cX7_boxIs 1 = .ok (.iload_n 1, 1) := by decide +kernel
theorem dX7_boxIs_2 : decode cX7_boxIs 2 = .ok (.invokevirtual 131, 3) := by decide +kernel
theorem dX7_boxIs_5 : decode cX7_boxIs 5 = .ok (.istore_n 3, 1) := by decide +kernel
theorem dX7_boxIs_6 : decode cX7_boxIs 6 = .ok (.aload_n 0, 1) := by decide +kernel
theorem dX7_boxIs_7 : decode cX7_boxIs 7 = .ok (.iload_n 3, 1) := by decide +kernel
theorem dX7_boxIs_8 : decode cX7_boxIs 8 = .ok (.ifCond .ne 7, 3) := by decide +kernel
theorem dX7_boxIs_11 : decode cX7_boxIs 11 = .ok (.iconst 1, 1) := by decide +kernel
theorem dX7_boxIs_12 : decode cX7_boxIs 12 = .ok (.goto 18, 3) := by decide +kernel
theorem dX7_boxIs_15 : decode cX7_boxIs 15 = .ok (.iload_n 2, 1) := by decide +kernel
theorem dX7_boxIs_16 : decode cX7_boxIs 16 = .ok (.iconst 0, 1) := by decide +kernel
theorem dX7_boxIs_17 : decode cX7_boxIs 17 = .ok (.bipush 7, 2) := by decide +kernel
theorem dX7_boxIs_19 : decode cX7_boxIs 19 = .ok (.invokestatic 111, 3) := by decide +kernel
theorem dX7_boxIs_22 : decode cX7_boxIs 22 = .ok (.ifCond .ne 7, 3) := by decide +kernel
theorem dX7_boxIs_25 : decode cX7_boxIs 25 = .ok (.iconst 2, 1) := by decide +kernel
theorem dX7_boxIs_26 : decode cX7_boxIs 26 = .ok (.goto 4, 3) := by decide +kernel
theorem dX7_boxIs_29 : decode cX7_boxIs 29 = .ok (.iconst 0, 1) := by decide +kernel
theorem dX7_boxIs_30 : decode cX7_boxIs 30 = .ok (.invokevirtual 125, 3) := by decide +kernel
theorem dX7_boxIs_33 : decode cX7_boxIs 33 = .ok (.ifCond .eq 12, 3) := by decide +kernel
theorem dX7_boxIs_36 : decode cX7_boxIs 36 = .ok (.aload_n 0, 1) := by decide +kernel
theorem dX7_boxIs_37 : decode cX7_boxIs 37 = .ok (.iload_n 1, 1) := by decide +kernel
theorem dX7_boxIs_38 : decode cX7_boxIs 38 = .ok (.iload_n 2, 1) := by decide +kernel
theorem dX7_boxIs_39 : decode cX7_boxIs 39 = .ok (.invokevirtual 239, 3) := by decide +kernel
theorem dX7_boxIs_42 : decode cX7_boxIs 42 = .ok (.goto 4, 3) := by decide +kernel
theorem dX7_boxIs_45 : decode cX7_boxIs 45 = .ok (.iconst 0, 1) := by decide +kernel
theorem dX7_boxIs_46 : decode cX7_boxIs 46 = .ok (.ireturn, 1) := by decide +kernel
theorem dX7_lacks_0 : decode cX7_lacks 0 = .ok (.aload_n 0, 1) := by decide +kernel
theorem dX7_lacks_1 : decode cX7_lacks 1 = .ok (.aload_n 0, 1) := by decide +kernel
theorem dX7_lacks_2 : decode cX7_lacks 2 = .ok (.iload_n 1, 1) := by decide +kernel
theorem dX7_lacks_3 : decode cX7_lacks 3 = .ok (.invokevirtual 201, 3) := by decide +kernel
theorem dX7_lacks_6 : decode cX7_lacks 6 = .ok (.ifCond .eq 7, 3) := by decide +kernel
theorem dX7_lacks_9 : decode cX7_lacks 9 = .ok (.iconst 0, 1) := by decide +kernel
theorem dX7_lacks_10 : decode cX7_lacks 10 = .ok (.goto 4, 3) := by decide +kernel
theorem dX7_lacks_13 : decode cX7_lacks 13 = .ok (.iconst 1, 1) := by decide +kernel
theorem dX7_lacks_14 : decode cX7_lacks 14 = .ok (.invokevirtual 125, 3) := by decide +kernel
theorem dX7_lacks_17 : decode cX7_lacks 17 = .ok (.ifCond .eq 11, 3) := by decide +kernel
theorem dX7_lacks_20 : decode cX7_lacks 20 = .ok (.aload_n 0, 1) := by decide +kernel
theorem dX7_lacks_21 : decode cX7_lacks 21 = .ok (.iload_n 1, 1) := by decide +kernel
theorem dX7_lacks_22 : decode cX7_lacks 22 = .ok (.invokevirtual 192, 3) := by decide +kernel
theorem dX7_lacks_25 : decode cX7_lacks 25 = .ok (.goto 4, 3) := by decide +kernel
theorem dX7_lacks_28 : decode cX7_lacks 28 = .ok (.iconst 0, 1) := by decide +kernel
theorem dX7_lacks_29 : decode cX7_lacks 29 = .ok (.ireturn, 1) := by decide +kernel
theorem dX7_pass_0 : decode cX7_pass 0 = .ok (.aload_n 0, 1) := by decide +kernel
theorem dX7_pass_1 : decode cX7_pass 1 = .ok (.iload_n 1, 1) := by decide +kernel
theorem dX7_pass_2 : decode cX7_pass 2 = .ok (.iconst 1, 1) := by decide +kernel
theorem dX7_pass_3 : decode cX7_pass 3 = .ok (.sipush 400, 3) := by decide +kernel
theorem dX7_pass_6 : decode cX7_pass 6 = .ok (.invokestatic 111, 3) := by decide +kernel
theorem dX7_pass_9 : decode cX7_pass 9 = .ok (.ifCond .ne 7, 3) := by decide +kernel
theorem dX7_pass_12 : decode cX7_pass 12 = .ok (.iconst 1, 1) := by decide +kernel
theorem dX7_pass_13 : decode cX7_pass 13 = .ok (.goto 20, 3) := by decide +kernel
theorem dX7_pass_16 : decode cX7_pass 16 = .ok (.aload_n 0, 1) := by decide +kernel
theorem dX7_pass_17 : decode cX7_pass 17 = .ok (.getfield 152, 3) := by decide +kernel
theorem dX7_pass_20 : decode cX7_pass 20 = .ok (.iload_n 1, 1) := by decide +kernel
theorem dX7_pass_21 : decode cX7_pass 21 = .ok (.iadd, 1) := by decide +kernel
theorem dX7_pass_22 : decode cX7_pass 22 = .ok (.sipush 9999, 3) := by decide +kernel
theorem dX7_pass_25 : decode cX7_pass 25 = .ok (.if_icmp .le 7, 3) := by decide +kernel
theorem dX7_pass_28 : decode cX7_pass 28 = .ok (.iconst 2, 1) := by decide +kernel
theorem dX7_pass_29 : decode cX7_pass 29 = .ok (.goto 4, 3) := by decide +kernel
theorem dX7_pass_32 : decode cX7_pass 32 = .ok (.iconst 0, 1) := by decide +kernel
theorem dX7_pass_33 : decode cX7_pass 33 = .ok (.invokevirtual 125, 3) := by decide +kernel
theorem dX7_pass_36 : decode cX7_pass 36 = .ok (.ifCond .ne 5, 3) := by decide +kernel
theorem dX7_pass_39 : decode cX7_pass 39 = .ok (.iconst 0, 1) := by decide +kernel
theorem dX7_pass_40 : decode cX7_pass 40 = .ok (.ireturn, 1) := by decide +kernel
theorem dX7_pass_41 : decode cX7_pass 41 = .ok (.aload_n 0, 1) := by decide +kernel
theorem dX7_pass_42 : decode cX7_pass 42 = .ok (.dup, 1) := by decide +kernel
theorem dX7_pass_43 : decode cX7_pass 43 = .ok (.getfield 152, 3) := by decide +kernel
theorem dX7_pass_46 : decode cX7_pass 46 = .ok (.iload_n 1, 1) := by decide +kernel
theorem dX7_pass_47 : decode cX7_pass 47 = .ok (.iadd, 1) := by decide +kernel
theorem dX7_pass_48 : decode cX7_pass 48 = .ok (.putfield 152, 3) := by decide +kernel
theorem dX7_pass_51 : decode cX7_pass 51 = .ok (.aload_n 0, 1) := by decide +kernel
theorem dX7_pass_52 : decode cX7_pass 52 = .ok (.getfield 152, 3) := by decide +kernel
theorem dX7_pass_55 : decode cX7_pass 55 = .ok (.ireturn, 1) := by decide +kernel
