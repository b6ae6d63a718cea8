/-! decode rows -/
theorem d_mo_init_0 : decode m_mo_init.2.2.1 0 = .ok (.aload_n 0, 1) := by decide +kernel
theorem d_mo_init_1 : decode m_mo_init.2.2.1 1 = .ok (.invokespecial 1, 3) := by decide +kernel
theorem d_mo_init_4 : decode m_mo_init.2.2.1 4 = .ok (.aload_n 0, 1) := by decide +kernel
theorem d_mo_init_5 : decode m_mo_init.2.2.1 5 = .ok (.bipush 30, 2) := by decide +kernel
theorem d_mo_init_7 : decode m_mo_init.2.2.1 7 = .ok (.newarray .int, 2) := by decide +kernel
theorem d_mo_init_9 : decode m_mo_init.2.2.1 9 = .ok (.putfield 9, 3) := by decide +kernel
theorem d_mo_init_12 : decode m_mo_init.2.2.1 12 = .ok (.aload_n 0, 1) := by decide +kernel
theorem d_mo_init_13 : decode m_mo_init.2.2.1 13 = .ok (.bipush 30, 2) := by decide +kernel
theorem d_mo_init_15 : decode m_mo_init.2.2.1 15 = .ok (.newarray .int, 2) := by decide +kernel
theorem d_mo_init_17 : decode m_mo_init.2.2.1 17 = .ok (.putfield 13, 3) := by decide +kernel
theorem d_mo_init_20 : decode m_mo_init.2.2.1 20 = .ok (.aload_n 0, 1) := by decide +kernel
theorem d_mo_init_21 : decode m_mo_init.2.2.1 21 = .ok (.bipush 30, 2) := by decide +kernel
theorem d_mo_init_23 : decode m_mo_init.2.2.1 23 = .ok (.newarray .int, 2) := by decide +kernel
theorem d_mo_init_25 : decode m_mo_init.2.2.1 25 = .ok (.putfield 16, 3) := by decide +kernel
theorem d_mo_init_28 : decode m_mo_init.2.2.1 28 = .ok (.aload_n 0, 1) := by decide +kernel
theorem d_mo_init_29 : decode m_mo_init.2.2.1 29 = .ok (.bipush 30, 2) := by decide +kernel
theorem d_mo_init_31 : decode m_mo_init.2.2.1 31 = .ok (.newarray .int, 2) := by decide +kernel
theorem d_mo_init_33 : decode m_mo_init.2.2.1 33 = .ok (.putfield 19, 3) := by decide +kernel
theorem d_mo_init_36 : decode m_mo_init.2.2.1 36 = .ok (.aload_n 0, 1) := by decide +kernel
theorem d_mo_init_37 : decode m_mo_init.2.2.1 37 = .ok (.bipush 120, 2) := by decide +kernel
theorem d_mo_init_39 : decode m_mo_init.2.2.1 39 = .ok (.newarray .int, 2) := by decide +kernel
theorem d_mo_init_41 : decode m_mo_init.2.2.1 41 = .ok (.putfield 22, 3) := by decide +kernel
theorem d_mo_init_44 : decode m_mo_init.2.2.1 44 = .ok (.aload_n 0, 1) := by decide +kernel
theorem d_mo_init_45 : decode m_mo_init.2.2.1 45 = .ok (.bipush 8, 2) := by decide +kernel
theorem d_mo_init_47 : decode m_mo_init.2.2.1 47 = .ok (.newarray .int, 2) := by decide +kernel
theorem d_mo_init_49 : decode m_mo_init.2.2.1 49 = .ok (.putfield 25, 3) := by decide +kernel
theorem d_mo_init_52 : decode m_mo_init.2.2.1 52 = .ok (.aload_n 0, 1) := by decide +kernel
theorem d_mo_init_53 : decode m_mo_init.2.2.1 53 = .ok (.bipush 8, 2) := by decide +kernel
theorem d_mo_init_55 : decode m_mo_init.2.2.1 55 = .ok (.newarray .int, 2) := by decide +kernel
theorem d_mo_init_57 : decode m_mo_init.2.2.1 57 = .ok (.putfield 28, 3) := by decide +kernel
theorem d_mo_init_60 : decode m_mo_init.2.2.1 60 = .ok (.aload_n 0, 1) := by decide +kernel
theorem d_mo_init_61 : decode m_mo_init.2.2.1 61 = .ok (.sipush 128, 3) := by decide +kernel
theorem d_mo_init_64 : decode m_mo_init.2.2.1 64 = .ok (.newarray .int, 2) := by decide +kernel
theorem d_mo_init_66 : decode m_mo_init.2.2.1 66 = .ok (.putfield 31, 3) := by decide +kernel
theorem d_mo_init_69 : decode m_mo_init.2.2.1 69 = .ok (.aload_n 0, 1) := by decide +kernel
theorem d_mo_init_70 : decode m_mo_init.2.2.1 70 = .ok (.sipush 128, 3) := by decide +kernel
theorem d_mo_init_73 : decode m_mo_init.2.2.1 73 = .ok (.newarray .int, 2) := by decide +kernel
theorem d_mo_init_75 : decode m_mo_init.2.2.1 75 = .ok (.putfield 34, 3) := by decide +kernel
theorem d_mo_init_78 : decode m_mo_init.2.2.1 78 = .ok (.aload_n 0, 1) := by decide +kernel
theorem d_mo_init_79 : decode m_mo_init.2.2.1 79 = .ok (.sipush 768, 3) := by decide +kernel
theorem d_mo_init_82 : decode m_mo_init.2.2.1 82 = .ok (.newarray .int, 2) := by decide +kernel
theorem d_mo_init_84 : decode m_mo_init.2.2.1 84 = .ok (.putfield 37, 3) := by decide +kernel
theorem d_mo_init_87 : decode m_mo_init.2.2.1 87 = .ok (.aload_n 0, 1) := by decide +kernel
theorem d_mo_init_88 : decode m_mo_init.2.2.1 88 = .ok (.sipush 160, 3) := by decide +kernel
theorem d_mo_init_91 : decode m_mo_init.2.2.1 91 = .ok (.newarray .int, 2) := by decide +kernel
theorem d_mo_init_93 : decode m_mo_init.2.2.1 93 = .ok (.putfield 40, 3) := by decide +kernel
theorem d_mo_init_96 : decode m_mo_init.2.2.1 96 = .ok (.aload_n 0, 1) := by decide +kernel
theorem d_mo_init_97 : decode m_mo_init.2.2.1 97 = .ok (.sipush 160, 3) := by decide +kernel
theorem d_mo_init_100 : decode m_mo_init.2.2.1 100 = .ok (.newarray .int, 2) := by decide +kernel
theorem d_mo_init_102 : decode m_mo_init.2.2.1 102 = .ok (.putfield 43, 3) := by decide +kernel
theorem d_mo_init_105 : decode m_mo_init.2.2.1 105 = .ok (.aload_n 0, 1) := by decide +kernel
theorem d_mo_init_106 : decode m_mo_init.2.2.1 106 = .ok (.sipush 160, 3) := by decide +kernel
theorem d_mo_init_109 : decode m_mo_init.2.2.1 109 = .ok (.newarray .int, 2) := by decide +kernel
theorem d_mo_init_111 : decode m_mo_init.2.2.1 111 = .ok (.putfield 46, 3) := by decide +kernel
theorem d_mo_init_114 : decode m_mo_init.2.2.1 114 = .ok (.aload_n 0, 1) := by decide +kernel
theorem d_mo_init_115 : decode m_mo_init.2.2.1 115 = .ok (.sipush 160, 3) := by decide +kernel
theorem d_mo_init_118 : decode m_mo_init.2.2.1 118 = .ok (.newarray .int, 2) := by decide +kernel
theorem d_mo_init_120 : decode m_mo_init.2.2.1 120 = .ok (.putfield 49, 3) := by decide +kernel
theorem d_mo_init_123 : decode m_mo_init.2.2.1 123 = .ok (.aload_n 0, 1) := by decide +kernel
theorem d_mo_init_124 : decode m_mo_init.2.2.1 124 = .ok (.sipush 160, 3) := by decide +kernel
theorem d_mo_init_127 : decode m_mo_init.2.2.1 127 = .ok (.newarray .int, 2) := by decide +kernel
theorem d_mo_init_129 : decode m_mo_init.2.2.1 129 = .ok (.putfield 52, 3) := by decide +kernel
theorem d_mo_init_132 : decode m_mo_init.2.2.1 132 = .ok (.aload_n 0, 1) := by decide +kernel
theorem d_mo_init_133 : decode m_mo_init.2.2.1 133 = .ok (.sipush 160, 3) := by decide +kernel
theorem d_mo_init_136 : decode m_mo_init.2.2.1 136 = .ok (.newarray .int, 2) := by decide +kernel
theorem d_mo_init_138 : decode m_mo_init.2.2.1 138 = .ok (.putfield 55, 3) := by decide +kernel
theorem d_mo_init_141 : decode m_mo_init.2.2.1 141 = .ok (.aload_n 0, 1) := by decide +kernel
theorem d_mo_init_142 : decode m_mo_init.2.2.1 142 = .ok (.sipush 160, 3) := by decide +kernel
theorem d_mo_init_145 : decode m_mo_init.2.2.1 145 = .ok (.newarray .boolean, 2) := by decide +kernel
theorem d_mo_init_147 : decode m_mo_init.2.2.1 147 = .ok (.putfield 58, 3) := by decide +kernel
theorem d_mo_init_150 : decode m_mo_init.2.2.1 150 = .ok (.aload_n 0, 1) := by decide +kernel
theorem d_mo_init_151 : decode m_mo_init.2.2.1 151 = .ok (.sipush 160, 3) := by decide +kernel
theorem d_mo_init_154 : decode m_mo_init.2.2.1 154 = .ok (.newarray .boolean, 2) := by decide +kernel
theorem d_mo_init_156 : decode m_mo_init.2.2.1 156 = .ok (.putfield 62, 3) := by decide +kernel
theorem d_mo_init_159 : decode m_mo_init.2.2.1 159 = .ok (.aload_n 0, 1) := by decide +kernel
theorem d_mo_init_160 : decode m_mo_init.2.2.1 160 = .ok (.bipush 60, 2) := by decide +kernel
theorem d_mo_init_162 : decode m_mo_init.2.2.1 162 = .ok (.newarray .int, 2) := by decide +kernel
theorem d_mo_init_164 : decode m_mo_init.2.2.1 164 = .ok (.putfield 65, 3) := by decide +kernel
theorem d_mo_init_167 : decode m_mo_init.2.2.1 167 = .ok (.aload_n 0, 1) := by decide +kernel
theorem d_mo_init_168 : decode m_mo_init.2.2.1 168 = .ok (.sipush 128, 3) := by decide +kernel
theorem d_mo_init_171 : decode m_mo_init.2.2.1 171 = .ok (.newarray .int, 2) := by decide +kernel
theorem d_mo_init_173 : decode m_mo_init.2.2.1 173 = .ok (.putfield 68, 3) := by decide +kernel
theorem d_mo_init_176 : decode m_mo_init.2.2.1 176 = .ok (.aload_n 0, 1) := by decide +kernel
theorem d_mo_init_177 : decode m_mo_init.2.2.1 177 = .ok (.sipush 128, 3) := by decide +kernel
theorem d_mo_init_180 : decode m_mo_init.2.2.1 180 = .ok (.newarray .int, 2) := by decide +kernel
theorem d_mo_init_182 : decode m_mo_init.2.2.1 182 = .ok (.putfield 71, 3) := by decide +kernel
theorem d_mo_init_185 : decode m_mo_init.2.2.1 185 = .ok (.aload_n 0, 1) := by decide +kernel
theorem d_mo_init_186 : decode m_mo_init.2.2.1 186 = .ok (.sipush 128, 3) := by decide +kernel
theorem d_mo_init_189 : decode m_mo_init.2.2.1 189 = .ok (.newarray .int, 2) := by decide +kernel
theorem d_mo_init_191 : decode m_mo_init.2.2.1 191 = .ok (.putfield 74, 3) := by decide +kernel
theorem d_mo_init_194 : decode m_mo_init.2.2.1 194 = .ok (.aload_n 0, 1) := by decide +kernel
theorem d_mo_init_195 : decode m_mo_init.2.2.1 195 = .ok (.bipush 120, 2) := by decide +kernel
theorem d_mo_init_197 : decode m_mo_init.2.2.1 197 = .ok (.newarray .int, 2) := by decide +kernel
theorem d_mo_init_199 : decode m_mo_init.2.2.1 199 = .ok (.putfield 77, 3) := by decide +kernel
theorem d_mo_init_202 : decode m_mo_init.2.2.1 202 = .ok (.aload_n 0, 1) := by decide +kernel
theorem d_mo_init_203 : decode m_mo_init.2.2.1 203 = .ok (.sipush 160, 3) := by decide +kernel
theorem d_mo_init_206 : decode m_mo_init.2.2.1 206 = .ok (.newarray .int, 2) := by decide +kernel
theorem d_mo_init_208 : decode m_mo_init.2.2.1 208 = .ok (.putfield 80, 3) := by decide +kernel
theorem d_mo_init_211 : decode m_mo_init.2.2.1 211 = .ok (.aload_n 0, 1) := by decide +kernel
theorem d_mo_init_212 : decode m_mo_init.2.2.1 212 = .ok (.bipush 24, 2) := by decide +kernel
theorem d_mo_init_214 : decode m_mo_init.2.2.1 214 = .ok (.newarray .int, 2) := by decide +kernel
theorem d_mo_init_216 : decode m_mo_init.2.2.1 216 = .ok (.putfield 83, 3) := by decide +kernel
theorem d_mo_init_219 : decode m_mo_init.2.2.1 219 = .ok (.aload_n 0, 1) := by decide +kernel
theorem d_mo_init_220 : decode m_mo_init.2.2.1 220 = .ok (.iconst 3, 1) := by decide +kernel
theorem d_mo_init_221 : decode m_mo_init.2.2.1 221 = .ok (.newarray .int, 2) := by decide +kernel
theorem d_mo_init_223 : decode m_mo_init.2.2.1 223 = .ok (.putfield 86, 3) := by decide +kernel
theorem d_mo_init_226 : decode m_mo_init.2.2.1 226 = .ok (.aload_n 0, 1) := by decide +kernel
theorem d_mo_init_227 : decode m_mo_init.2.2.1 227 = .ok (.sipush 180, 3) := by decide +kernel
theorem d_mo_init_230 : decode m_mo_init.2.2.1 230 = .ok (.newarray .int, 2) := by decide +kernel
theorem d_mo_init_232 : decode m_mo_init.2.2.1 232 = .ok (.putfield 89, 3) := by decide +kernel
theorem d_mo_init_235 : decode m_mo_init.2.2.1 235 = .ok (.aload_n 0, 1) := by decide +kernel
theorem d_mo_init_236 : decode m_mo_init.2.2.1 236 = .ok (.bipush 60, 2) := by decide +kernel
theorem d_mo_init_238 : decode m_mo_init.2.2.1 238 = .ok (.newarray .int, 2) := by decide +kernel
theorem d_mo_init_240 : decode m_mo_init.2.2.1 240 = .ok (.putfield 92, 3) := by decide +kernel
theorem d_mo_init_243 : decode m_mo_init.2.2.1 243 = .ok (.aload_n 0, 1) := by decide +kernel
theorem d_mo_init_244 : decode m_mo_init.2.2.1 244 = .ok (.bipush 60, 2) := by decide +kernel
theorem d_mo_init_246 : decode m_mo_init.2.2.1 246 = .ok (.newarray .int, 2) := by decide +kernel
theorem d_mo_init_248 : decode m_mo_init.2.2.1 248 = .ok (.putfield 95, 3) := by decide +kernel
theorem d_mo_init_251 : decode m_mo_init.2.2.1 251 = .ok (.aload_n 0, 1) := by decide +kernel
theorem d_mo_init_252 : decode m_mo_init.2.2.1 252 = .ok (.bipush 60, 2) := by decide +kernel
theorem d_mo_init_254 : decode m_mo_init.2.2.1 254 = .ok (.newarray .boolean, 2) := by decide +kernel
theorem d_mo_init_256 : decode m_mo_init.2.2.1 256 = .ok (.putfield 98, 3) := by decide +kernel
theorem d_mo_init_259 : decode m_mo_init.2.2.1 259 = .ok (.aload_n 0, 1) := by decide +kernel
theorem d_mo_init_260 : decode m_mo_init.2.2.1 260 = .ok (.iconst 3, 1) := by decide +kernel
theorem d_mo_init_261 : decode m_mo_init.2.2.1 261 = .ok (.invokestatic 101, 3) := by decide +kernel
theorem d_mo_init_264 : decode m_mo_init.2.2.1 264 = .ok (.putfield 105, 3) := by decide +kernel
theorem d_mo_init_267 : decode m_mo_init.2.2.1 267 = .ok (.aload_n 0, 1) := by decide +kernel
theorem d_mo_init_268 : decode m_mo_init.2.2.1 268 = .ok (.iconst 3, 1) := by decide +kernel
theorem d_mo_init_269 : decode m_mo_init.2.2.1 269 = .ok (.newarray .int, 2) := by decide +kernel
theorem d_mo_init_271 : decode m_mo_init.2.2.1 271 = .ok (.putfield 108, 3) := by decide +kernel
theorem d_mo_init_274 : decode m_mo_init.2.2.1 274 = .ok (.aload_n 0, 1) := by decide +kernel
theorem d_mo_init_275 : decode m_mo_init.2.2.1 275 = .ok (.bipush 30, 2) := by decide +kernel
theorem d_mo_init_277 : decode m_mo_init.2.2.1 277 = .ok (.invokestatic 101, 3) := by decide +kernel
theorem d_mo_init_280 : decode m_mo_init.2.2.1 280 = .ok (.putfield 111, 3) := by decide +kernel
theorem d_mo_init_283 : decode m_mo_init.2.2.1 283 = .ok (.aload_n 0, 1) := by decide +kernel
theorem d_mo_init_284 : decode m_mo_init.2.2.1 284 = .ok (.bipush 30, 2) := by decide +kernel
theorem d_mo_init_286 : decode m_mo_init.2.2.1 286 = .ok (.newarray .int, 2) := by decide +kernel
theorem d_mo_init_288 : decode m_mo_init.2.2.1 288 = .ok (.putfield 114, 3) := by decide +kernel
theorem d_mo_init_291 : decode m_mo_init.2.2.1 291 = .ok (.aload_n 0, 1) := by decide +kernel
theorem d_mo_init_292 : decode m_mo_init.2.2.1 292 = .ok (.bipush 30, 2) := by decide +kernel
theorem d_mo_init_294 : decode m_mo_init.2.2.1 294 = .ok (.newarray .int, 2) := by decide +kernel
theorem d_mo_init_296 : decode m_mo_init.2.2.1 296 = .ok (.putfield 117, 3) := by decide +kernel
theorem d_mo_init_299 : decode m_mo_init.2.2.1 299 = .ok (.aload_n 0, 1) := by decide +kernel
theorem d_mo_init_300 : decode m_mo_init.2.2.1 300 = .ok (.bipush 30, 2) := by decide +kernel
theorem d_mo_init_302 : decode m_mo_init.2.2.1 302 = .ok (.newarray .int, 2) := by decide +kernel
theorem d_mo_init_304 : decode m_mo_init.2.2.1 304 = .ok (.putfield 120, 3) := by decide +kernel
theorem d_mo_init_307 : decode m_mo_init.2.2.1 307 = .ok (.aload_n 0, 1) := by decide +kernel
theorem d_mo_init_308 : decode m_mo_init.2.2.1 308 = .ok (.bipush 30, 2) := by decide +kernel
theorem d_mo_init_310 : decode m_mo_init.2.2.1 310 = .ok (.newarray .int, 2) := by decide +kernel
theorem d_mo_init_312 : decode m_mo_init.2.2.1 312 = .ok (.putfield 123, 3) := by decide +kernel
theorem d_mo_init_315 : decode m_mo_init.2.2.1 315 = .ok (.aload_n 0, 1) := by decide +kernel
theorem d_mo_init_316 : decode m_mo_init.2.2.1 316 = .ok (.bipush 120, 2) := by decide +kernel
theorem d_mo_init_318 : decode m_mo_init.2.2.1 318 = .ok (.newarray .int, 2) := by decide +kernel
theorem d_mo_init_320 : decode m_mo_init.2.2.1 320 = .ok (.putfield 126, 3) := by decide +kernel
theorem d_mo_init_323 : decode m_mo_init.2.2.1 323 = .ok (.aload_n 0, 1) := by decide +kernel
theorem d_mo_init_324 : decode m_mo_init.2.2.1 324 = .ok (.bipush 8, 2) := by decide +kernel
theorem d_mo_init_326 : decode m_mo_init.2.2.1 326 = .ok (.newarray .int, 2) := by decide +kernel
theorem d_mo_init_328 : decode m_mo_init.2.2.1 328 = .ok (.putfield 129, 3) := by decide +kernel
theorem d_mo_init_331 : decode m_mo_init.2.2.1 331 = .ok (.aload_n 0, 1) := by decide +kernel
theorem d_mo_init_332 : decode m_mo_init.2.2.1 332 = .ok (.bipush 8, 2) := by decide +kernel
theorem d_mo_init_334 : decode m_mo_init.2.2.1 334 = .ok (.newarray .int, 2) := by decide +kernel
theorem d_mo_init_336 : decode m_mo_init.2.2.1 336 = .ok (.putfield 132, 3) := by decide +kernel
theorem d_mo_init_339 : decode m_mo_init.2.2.1 339 = .ok (.aload_n 0, 1) := by decide +kernel
theorem d_mo_init_340 : decode m_mo_init.2.2.1 340 = .ok (.sipush 128, 3) := by decide +kernel
theorem d_mo_init_343 : decode m_mo_init.2.2.1 343 = .ok (.newarray .int, 2) := by decide +kernel
theorem d_mo_init_345 : decode m_mo_init.2.2.1 345 = .ok (.putfield 135, 3) := by decide +kernel
theorem d_mo_init_348 : decode m_mo_init.2.2.1 348 = .ok (.aload_n 0, 1) := by decide +kernel
theorem d_mo_init_349 : decode m_mo_init.2.2.1 349 = .ok (.sipush 128, 3) := by decide +kernel
theorem d_mo_init_352 : decode m_mo_init.2.2.1 352 = .ok (.newarray .int, 2) := by decide +kernel
theorem d_mo_init_354 : decode m_mo_init.2.2.1 354 = .ok (.putfield 138, 3) := by decide +kernel
theorem d_mo_init_357 : decode m_mo_init.2.2.1 357 = .ok (.aload_n 0, 1) := by decide +kernel
theorem d_mo_init_358 : decode m_mo_init.2.2.1 358 = .ok (.sipush 768, 3) := by decide +kernel
theorem d_mo_init_361 : decode m_mo_init.2.2.1 361 = .ok (.newarray .int, 2) := by decide +kernel
theorem d_mo_init_363 : decode m_mo_init.2.2.1 363 = .ok (.putfield 141, 3) := by decide +kernel
theorem d_mo_init_366 : decode m_mo_init.2.2.1 366 = .ok (.return_, 1) := by decide +kernel
theorem d_mo_in_0 : decode m_mo_in.2.2.1 0 = .ok (.iload_n 0, 1) := by decide +kernel
theorem d_mo_in_1 : decode m_mo_in.2.2.1 1 = .ok (.iload_n 1, 1) := by decide +kernel
theorem d_mo_in_2 : decode m_mo_in.2.2.1 2 = .ok (.if_icmp .lt 12, 3) := by decide +kernel
theorem d_mo_in_5 : decode m_mo_in.2.2.1 5 = .ok (.iload_n 0, 1) := by decide +kernel
theorem d_mo_in_6 : decode m_mo_in.2.2.1 6 = .ok (.iload_n 2, 1) := by decide +kernel
theorem d_mo_in_7 : decode m_mo_in.2.2.1 7 = .ok (.if_icmp .gt 7, 3) := by decide +kernel
theorem d_mo_in_10 : decode m_mo_in.2.2.1 10 = .ok (.iconst 1, 1) := by decide +kernel
theorem d_mo_in_11 : decode m_mo_in.2.2.1 11 = .ok (.goto 4, 3) := by decide +kernel
theorem d_mo_in_14 : decode m_mo_in.2.2.1 14 = .ok (.iconst 0, 1) := by decide +kernel
theorem d_mo_in_15 : decode m_mo_in.2.2.1 15 = .ok (.ireturn, 1) := by decide +kernel
theorem d_mo_newNode_0 : decode m_mo_newNode.2.2.1 0 = .ok (.aload_n 0, 1) := by decide +kernel
theorem d_mo_newNode_1 : decode m_mo_newNode.2.2.1 1 = .ok (.getfield 144, 3) := by decide +kernel
theorem d_mo_newNode_4 : decode m_mo_newNode.2.2.1 4 = .ok (.istore 7, 2) := by decide +kernel
theorem d_mo_newNode_6 : decode m_mo_newNode.2.2.1 6 = .ok (.aload_n 0, 1) := by decide +kernel
theorem d_mo_newNode_7 : decode m_mo_newNode.2.2.1 7 = .ok (.getfield 40, 3) := by decide +kernel
theorem d_mo_newNode_10 : decode m_mo_newNode.2.2.1 10 = .ok (.iload 7, 2) := by decide +kernel
theorem d_mo_newNode_12 : decode m_mo_newNode.2.2.1 12 = .ok (.iload_n 1, 1) := by decide +kernel
theorem d_mo_newNode_13 : decode m_mo_newNode.2.2.1 13 = .ok (.iastore, 1) := by decide +kernel
theorem d_mo_newNode_14 : decode m_mo_newNode.2.2.1 14 = .ok (.aload_n 0, 1) := by decide +kernel
theorem d_mo_newNode_15 : decode m_mo_newNode.2.2.1 15 = .ok (.getfield 43, 3) := by decide +kernel
theorem d_mo_newNode_18 : decode m_mo_newNode.2.2.1 18 = .ok (.iload 7, 2) := by decide +kernel
theorem d_mo_newNode_20 : decode m_mo_newNode.2.2.1 20 = .ok (.iload_n 2, 1) := by decide +kernel
theorem d_mo_newNode_21 : decode m_mo_newNode.2.2.1 21 = .ok (.iastore, 1) := by decide +kernel
theorem d_mo_newNode_22 : decode m_mo_newNode.2.2.1 22 = .ok (.aload_n 0, 1) := by decide +kernel
theorem d_mo_newNode_23 : decode m_mo_newNode.2.2.1 23 = .ok (.getfield 46, 3) := by decide +kernel
theorem d_mo_newNode_26 : decode m_mo_newNode.2.2.1 26 = .ok (.iload 7, 2) := by decide +kernel
theorem d_mo_newNode_28 : decode m_mo_newNode.2.2.1 28 = .ok (.iload_n 3, 1) := by decide +kernel
theorem d_mo_newNode_29 : decode m_mo_newNode.2.2.1 29 = .ok (.iastore, 1) := by decide +kernel
theorem d_mo_newNode_30 : decode m_mo_newNode.2.2.1 30 = .ok (.aload_n 0, 1) := by decide +kernel
theorem d_mo_newNode_31 : decode m_mo_newNode.2.2.1 31 = .ok (.getfield 49, 3) := by decide +kernel
theorem d_mo_newNode_34 : decode m_mo_newNode.2.2.1 34 = .ok (.iload 7, 2) := by decide +kernel
theorem d_mo_newNode_36 : decode m_mo_newNode.2.2.1 36 = .ok (.iload 4, 2) := by decide +kernel
theorem d_mo_newNode_38 : decode m_mo_newNode.2.2.1 38 = .ok (.iastore, 1) := by decide +kernel
theorem d_mo_newNode_39 : decode m_mo_newNode.2.2.1 39 = .ok (.aload_n 0, 1) := by decide +kernel
theorem d_mo_newNode_40 : decode m_mo_newNode.2.2.1 40 = .ok (.getfield 52, 3) := by decide +kernel
theorem d_mo_newNode_43 : decode m_mo_newNode.2.2.1 43 = .ok (.iload 7, 2) := by decide +kernel
theorem d_mo_newNode_45 : decode m_mo_newNode.2.2.1 45 = .ok (.iload 5, 2) := by decide +kernel
theorem d_mo_newNode_47 : decode m_mo_newNode.2.2.1 47 = .ok (.iastore, 1) := by decide +kernel
theorem d_mo_newNode_48 : decode m_mo_newNode.2.2.1 48 = .ok (.aload_n 0, 1) := by decide +kernel
theorem d_mo_newNode_49 : decode m_mo_newNode.2.2.1 49 = .ok (.getfield 55, 3) := by decide +kernel
theorem d_mo_newNode_52 : decode m_mo_newNode.2.2.1 52 = .ok (.iload 7, 2) := by decide +kernel
theorem d_mo_newNode_54 : decode m_mo_newNode.2.2.1 54 = .ok (.iload 6, 2) := by decide +kernel
theorem d_mo_newNode_56 : decode m_mo_newNode.2.2.1 56 = .ok (.iastore, 1) := by decide +kernel
theorem d_mo_newNode_57 : decode m_mo_newNode.2.2.1 57 = .ok (.aload_n 0, 1) := by decide +kernel
theorem d_mo_newNode_58 : decode m_mo_newNode.2.2.1 58 = .ok (.getfield 58, 3) := by decide +kernel
theorem d_mo_newNode_61 : decode m_mo_newNode.2.2.1 61 = .ok (.iload 7, 2) := by decide +kernel
theorem d_mo_newNode_63 : decode m_mo_newNode.2.2.1 63 = .ok (.iconst 0, 1) := by decide +kernel
theorem d_mo_newNode_64 : decode m_mo_newNode.2.2.1 64 = .ok (.bastore, 1) := by decide +kernel
theorem d_mo_newNode_65 : decode m_mo_newNode.2.2.1 65 = .ok (.aload_n 0, 1) := by decide +kernel
theorem d_mo_newNode_66 : decode m_mo_newNode.2.2.1 66 = .ok (.getfield 62, 3) := by decide +kernel
theorem d_mo_newNode_69 : decode m_mo_newNode.2.2.1 69 = .ok (.iload 7, 2) := by decide +kernel
theorem d_mo_newNode_71 : decode m_mo_newNode.2.2.1 71 = .ok (.iconst 1, 1) := by decide +kernel
theorem d_mo_newNode_72 : decode m_mo_newNode.2.2.1 72 = .ok (.bastore, 1) := by decide +kernel
theorem d_mo_newNode_73 : decode m_mo_newNode.2.2.1 73 = .ok (.aload_n 0, 1) := by decide +kernel
theorem d_mo_newNode_74 : decode m_mo_newNode.2.2.1 74 = .ok (.dup, 1) := by decide +kernel
theorem d_mo_newNode_75 : decode m_mo_newNode.2.2.1 75 = .ok (.getfield 144, 3) := by decide +kernel
theorem d_mo_newNode_78 : decode m_mo_newNode.2.2.1 78 = .ok (.iconst 1, 1) := by decide +kernel
theorem d_mo_newNode_79 : decode m_mo_newNode.2.2.1 79 = .ok (.iadd, 1) := by decide +kernel
theorem d_mo_newNode_80 : decode m_mo_newNode.2.2.1 80 = .ok (.putfield 144, 3) := by decide +kernel
theorem d_mo_newNode_83 : decode m_mo_newNode.2.2.1 83 = .ok (.aload_n 0, 1) := by decide +kernel
theorem d_mo_newNode_84 : decode m_mo_newNode.2.2.1 84 = .ok (.dup, 1) := by decide +kernel
theorem d_mo_newNode_85 : decode m_mo_newNode.2.2.1 85 = .ok (.getfield 148, 3) := by decide +kernel
theorem d_mo_newNode_88 : decode m_mo_newNode.2.2.1 88 = .ok (.iconst 1, 1) := by decide +kernel
theorem d_mo_newNode_89 : decode m_mo_newNode.2.2.1 89 = .ok (.iadd, 1) := by decide +kernel
theorem d_mo_newNode_90 : decode m_mo_newNode.2.2.1 90 = .ok (.putfield 148, 3) := by decide +kernel
theorem d_mo_newNode_93 : decode m_mo_newNode.2.2.1 93 = .ok (.iload 7, 2) := by decide +kernel
theorem d_mo_newNode_95 : decode m_mo_newNode.2.2.1 95 = .ok (.ireturn, 1) := by decide +kernel
theorem d_mo_levelOf_0 : decode m_mo_levelOf.2.2.1 0 = .ok (.iconst 1, 1) := by decide +kernel
theorem d_mo_levelOf_1 : decode m_mo_levelOf.2.2.1 1 = .ok (.istore_n 2, 1) := by decide +kernel
theorem d_mo_levelOf_2 : decode m_mo_levelOf.2.2.1 2 = .ok (.aload_n 0, 1) := by decide +kernel
theorem d_mo_levelOf_3 : decode m_mo_levelOf.2.2.1 3 = .ok (.getfield 9, 3) := by decide +kernel
theorem d_mo_levelOf_6 : decode m_mo_levelOf.2.2.1 6 = .ok (.iload_n 1, 1) := by decide +kernel
theorem d_mo_levelOf_7 : decode m_mo_levelOf.2.2.1 7 = .ok (.iaload, 1) := by decide +kernel
theorem d_mo_levelOf_8 : decode m_mo_levelOf.2.2.1 8 = .ok (.istore_n 3, 1) := by decide +kernel
theorem d_mo_levelOf_9 : decode m_mo_levelOf.2.2.1 9 = .ok (.iload_n 3, 1) := by decide +kernel
theorem d_mo_levelOf_10 : decode m_mo_levelOf.2.2.1 10 = .ok (.ifCond .lt 16, 3) := by decide +kernel
theorem d_mo_levelOf_13 : decode m_mo_levelOf.2.2.1 13 = .ok (.iinc 2 1, 3) := by decide +kernel
theorem d_mo_levelOf_16 : decode m_mo_levelOf.2.2.1 16 = .ok (.aload_n 0, 1) := by decide +kernel
theorem d_mo_levelOf_17 : decode m_mo_levelOf.2.2.1 17 = .ok (.getfield 9, 3) := by decide +kernel
theorem d_mo_levelOf_20 : decode m_mo_levelOf.2.2.1 20 = .ok (.iload_n 3, 1) := by decide +kernel
theorem d_mo_levelOf_21 : decode m_mo_levelOf.2.2.1 21 = .ok (.iaload, 1) := by decide +kernel
theorem d_mo_levelOf_22 : decode m_mo_levelOf.2.2.1 22 = .ok (.istore_n 3, 1) := by decide +kernel
theorem d_mo_levelOf_23 : decode m_mo_levelOf.2.2.1 23 = .ok (.goto (-14), 3) := by decide +kernel
theorem d_mo_levelOf_26 : decode m_mo_levelOf.2.2.1 26 = .ok (.iload_n 2, 1) := by decide +kernel
theorem d_mo_levelOf_27 : decode m_mo_levelOf.2.2.1 27 = .ok (.ireturn, 1) := by decide +kernel
theorem d_mo_beginVersion_0 : decode m_mo_beginVersion.2.2.1 0 = .ok (.aload_n 0, 1) := by decide +kernel
theorem d_mo_beginVersion_1 : decode m_mo_beginVersion.2.2.1 1 = .ok (.iconst 0, 1) := by decide +kernel
theorem d_mo_beginVersion_2 : decode m_mo_beginVersion.2.2.1 2 = .ok (.putfield 144, 3) := by decide +kernel
theorem d_mo_beginVersion_5 : decode m_mo_beginVersion.2.2.1 5 = .ok (.aload_n 0, 1) := by decide +kernel
theorem d_mo_beginVersion_6 : decode m_mo_beginVersion.2.2.1 6 = .ok (.iconst 0, 1) := by decide +kernel
theorem d_mo_beginVersion_7 : decode m_mo_beginVersion.2.2.1 7 = .ok (.putfield 148, 3) := by decide +kernel
theorem d_mo_beginVersion_10 : decode m_mo_beginVersion.2.2.1 10 = .ok (.aload_n 0, 1) := by decide +kernel
theorem d_mo_beginVersion_11 : decode m_mo_beginVersion.2.2.1 11 = .ok (.iconst 0, 1) := by decide +kernel
theorem d_mo_beginVersion_12 : decode m_mo_beginVersion.2.2.1 12 = .ok (.putfield 151, 3) := by decide +kernel
theorem d_mo_beginVersion_15 : decode m_mo_beginVersion.2.2.1 15 = .ok (.iconst 0, 1) := by decide +kernel
theorem d_mo_beginVersion_16 : decode m_mo_beginVersion.2.2.1 16 = .ok (.istore_n 1, 1) := by decide +kernel
theorem d_mo_beginVersion_17 : decode m_mo_beginVersion.2.2.1 17 = .ok (.iload_n 1, 1) := by decide +kernel
theorem d_mo_beginVersion_18 : decode m_mo_beginVersion.2.2.1 18 = .ok (.aload_n 0, 1) := by decide +kernel
theorem d_mo_beginVersion_19 : decode m_mo_beginVersion.2.2.1 19 = .ok (.getfield 154, 3) := by decide +kernel
theorem d_mo_beginVersion_22 : decode m_mo_beginVersion.2.2.1 22 = .ok (.if_icmp .ge 40, 3) := by decide +kernel
theorem d_mo_beginVersion_25 : decode m_mo_beginVersion.2.2.1 25 = .ok (.aload_n 0, 1) := by decide +kernel
theorem d_mo_beginVersion_26 : decode m_mo_beginVersion.2.2.1 26 = .ok (.aload_n 0, 1) := by decide +kernel
theorem d_mo_beginVersion_27 : decode m_mo_beginVersion.2.2.1 27 = .ok (.getfield 9, 3) := by decide +kernel
theorem d_mo_beginVersion_30 : decode m_mo_beginVersion.2.2.1 30 = .ok (.iload_n 1, 1) := by decide +kernel
theorem d_mo_beginVersion_31 : decode m_mo_beginVersion.2.2.1 31 = .ok (.iaload, 1) := by decide +kernel
theorem d_mo_beginVersion_32 : decode m_mo_beginVersion.2.2.1 32 = .ok (.aload_n 0, 1) := by decide +kernel
theorem d_mo_beginVersion_33 : decode m_mo_beginVersion.2.2.1 33 = .ok (.iload_n 1, 1) := by decide +kernel
theorem d_mo_beginVersion_34 : decode m_mo_beginVersion.2.2.1 34 = .ok (.invokevirtual 157, 3) := by decide +kernel
theorem d_mo_beginVersion_37 : decode m_mo_beginVersion.2.2.1 37 = .ok (.aload_n 0, 1) := by decide +kernel
theorem d_mo_beginVersion_38 : decode m_mo_beginVersion.2.2.1 38 = .ok (.getfield 13, 3) := by decide +kernel
theorem d_mo_beginVersion_41 : decode m_mo_beginVersion.2.2.1 41 = .ok (.iload_n 1, 1) := by decide +kernel
theorem d_mo_beginVersion_42 : decode m_mo_beginVersion.2.2.1 42 = .ok (.iaload, 1) := by decide +kernel
theorem d_mo_beginVersion_43 : decode m_mo_beginVersion.2.2.1 43 = .ok (.aload_n 0, 1) := by decide +kernel
theorem d_mo_beginVersion_44 : decode m_mo_beginVersion.2.2.1 44 = .ok (.getfield 16, 3) := by decide +kernel
theorem d_mo_beginVersion_47 : decode m_mo_beginVersion.2.2.1 47 = .ok (.iload_n 1, 1) := by decide +kernel
theorem d_mo_beginVersion_48 : decode m_mo_beginVersion.2.2.1 48 = .ok (.iaload, 1) := by decide +kernel
theorem d_mo_beginVersion_49 : decode m_mo_beginVersion.2.2.1 49 = .ok (.iload_n 1, 1) := by decide +kernel
theorem d_mo_beginVersion_50 : decode m_mo_beginVersion.2.2.1 50 = .ok (.bipush (-9), 2) := by decide +kernel
theorem d_mo_beginVersion_52 : decode m_mo_beginVersion.2.2.1 52 = .ok (.invokevirtual 161, 3) := by decide +kernel
theorem d_mo_beginVersion_55 : decode m_mo_beginVersion.2.2.1 55 = .ok (.istore_n 2, 1) := by decide +kernel
theorem d_mo_beginVersion_56 : decode m_mo_beginVersion.2.2.1 56 = .ok (.iinc 1 1, 3) := by decide +kernel
theorem d_mo_beginVersion_59 : decode m_mo_beginVersion.2.2.1 59 = .ok (.goto (-42), 3) := by decide +kernel
theorem d_mo_beginVersion_62 : decode m_mo_beginVersion.2.2.1 62 = .ok (.return_, 1) := by decide +kernel
theorem d_mo_nextChild_0 : decode m_mo_nextChild.2.2.1 0 = .ok (.iconst (-1), 1) := by decide +kernel
theorem d_mo_nextChild_1 : decode m_mo_nextChild.2.2.1 1 = .ok (.istore_n 3, 1) := by decide +kernel
theorem d_mo_nextChild_2 : decode m_mo_nextChild.2.2.1 2 = .ok (.iconst 0, 1) := by decide +kernel
theorem d_mo_nextChild_3 : decode m_mo_nextChild.2.2.1 3 = .ok (.istore 4, 2) := by decide +kernel
theorem d_mo_nextChild_5 : decode m_mo_nextChild.2.2.1 5 = .ok (.iload 4, 2) := by decide +kernel
theorem d_mo_nextChild_7 : decode m_mo_nextChild.2.2.1 7 = .ok (.aload_n 0, 1) := by decide +kernel
theorem d_mo_nextChild_8 : decode m_mo_nextChild.2.2.1 8 = .ok (.getfield 144, 3) := by decide +kernel
theorem d_mo_nextChild_11 : decode m_mo_nextChild.2.2.1 11 = .ok (.if_icmp .ge 80, 3) := by decide +kernel
theorem d_mo_nextChild_14 : decode m_mo_nextChild.2.2.1 14 = .ok (.aload_n 0, 1) := by decide +kernel
theorem d_mo_nextChild_15 : decode m_mo_nextChild.2.2.1 15 = .ok (.getfield 62, 3) := by decide +kernel
theorem d_mo_nextChild_18 : decode m_mo_nextChild.2.2.1 18 = .ok (.iload 4, 2) := by decide +kernel
theorem d_mo_nextChild_20 : decode m_mo_nextChild.2.2.1 20 = .ok (.baload, 1) := by decide +kernel
theorem d_mo_nextChild_21 : decode m_mo_nextChild.2.2.1 21 = .ok (.ifCond .eq 29, 3) := by decide +kernel
theorem d_mo_nextChild_24 : decode m_mo_nextChild.2.2.1 24 = .ok (.aload_n 0, 1) := by decide +kernel
theorem d_mo_nextChild_25 : decode m_mo_nextChild.2.2.1 25 = .ok (.getfield 40, 3) := by decide +kernel
theorem d_mo_nextChild_28 : decode m_mo_nextChild.2.2.1 28 = .ok (.iload 4, 2) := by decide +kernel
theorem d_mo_nextChild_30 : decode m_mo_nextChild.2.2.1 30 = .ok (.iaload, 1) := by decide +kernel
theorem d_mo_nextChild_31 : decode m_mo_nextChild.2.2.1 31 = .ok (.iload_n 1, 1) := by decide +kernel
theorem d_mo_nextChild_32 : decode m_mo_nextChild.2.2.1 32 = .ok (.if_icmp .ne 18, 3) := by decide +kernel
theorem d_mo_nextChild_35 : decode m_mo_nextChild.2.2.1 35 = .ok (.aload_n 0, 1) := by decide +kernel
theorem d_mo_nextChild_36 : decode m_mo_nextChild.2.2.1 36 = .ok (.getfield 46, 3) := by decide +kernel
theorem d_mo_nextChild_39 : decode m_mo_nextChild.2.2.1 39 = .ok (.iload 4, 2) := by decide +kernel
theorem d_mo_nextChild_41 : decode m_mo_nextChild.2.2.1 41 = .ok (.iaload, 1) := by decide +kernel
theorem d_mo_nextChild_42 : decode m_mo_nextChild.2.2.1 42 = .ok (.iload_n 2, 1) := by decide +kernel
theorem d_mo_nextChild_43 : decode m_mo_nextChild.2.2.1 43 = .ok (.if_icmp .le 7, 3) := by decide +kernel
theorem d_mo_nextChild_46 : decode m_mo_nextChild.2.2.1 46 = .ok (.iconst 1, 1) := by decide +kernel
theorem d_mo_nextChild_47 : decode m_mo_nextChild.2.2.1 47 = .ok (.goto 4, 3) := by decide +kernel
theorem d_mo_nextChild_50 : decode m_mo_nextChild.2.2.1 50 = .ok (.iconst 0, 1) := by decide +kernel
theorem d_mo_nextChild_51 : decode m_mo_nextChild.2.2.1 51 = .ok (.istore 5, 2) := by decide +kernel
theorem d_mo_nextChild_53 : decode m_mo_nextChild.2.2.1 53 = .ok (.iload 5, 2) := by decide +kernel
theorem d_mo_nextChild_55 : decode m_mo_nextChild.2.2.1 55 = .ok (.ifCond .eq 28, 3) := by decide +kernel
theorem d_mo_nextChild_58 : decode m_mo_nextChild.2.2.1 58 = .ok (.iload_n 3, 1) := by decide +kernel
theorem d_mo_nextChild_59 : decode m_mo_nextChild.2.2.1 59 = .ok (.ifCond .lt 19, 3) := by decide +kernel
theorem d_mo_nextChild_62 : decode m_mo_nextChild.2.2.1 62 = .ok (.aload_n 0, 1) := by decide +kernel
theorem d_mo_nextChild_63 : decode m_mo_nextChild.2.2.1 63 = .ok (.getfield 46, 3) := by decide +kernel
theorem d_mo_nextChild_66 : decode m_mo_nextChild.2.2.1 66 = .ok (.iload 4, 2) := by decide +kernel
theorem d_mo_nextChild_68 : decode m_mo_nextChild.2.2.1 68 = .ok (.iaload, 1) := by decide +kernel
theorem d_mo_nextChild_69 : decode m_mo_nextChild.2.2.1 69 = .ok (.aload_n 0, 1) := by decide +kernel
theorem d_mo_nextChild_70 : decode m_mo_nextChild.2.2.1 70 = .ok (.getfield 46, 3) := by decide +kernel
theorem d_mo_nextChild_73 : decode m_mo_nextChild.2.2.1 73 = .ok (.iload_n 3, 1) := by decide +kernel
theorem d_mo_nextChild_74 : decode m_mo_nextChild.2.2.1 74 = .ok (.iaload, 1) := by decide +kernel
theorem d_mo_nextChild_75 : decode m_mo_nextChild.2.2.1 75 = .ok (.if_icmp .ge 8, 3) := by decide +kernel
theorem d_mo_nextChild_78 : decode m_mo_nextChild.2.2.1 78 = .ok (.iload 4, 2) := by decide +kernel
theorem d_mo_nextChild_80 : decode m_mo_nextChild.2.2.1 80 = .ok (.goto 4, 3) := by decide +kernel
theorem d_mo_nextChild_83 : decode m_mo_nextChild.2.2.1 83 = .ok (.iload_n 3, 1) := by decide +kernel
theorem d_mo_nextChild_84 : decode m_mo_nextChild.2.2.1 84 = .ok (.istore_n 3, 1) := by decide +kernel
theorem d_mo_nextChild_85 : decode m_mo_nextChild.2.2.1 85 = .ok (.iinc 4 1, 3) := by decide +kernel
theorem d_mo_nextChild_88 : decode m_mo_nextChild.2.2.1 88 = .ok (.goto (-83), 3) := by decide +kernel
theorem d_mo_nextChild_91 : decode m_mo_nextChild.2.2.1 91 = .ok (.iload_n 3, 1) := by decide +kernel
theorem d_mo_nextChild_92 : decode m_mo_nextChild.2.2.1 92 = .ok (.ireturn, 1) := by decide +kernel
theorem d_mo_lastChild_0 : decode m_mo_lastChild.2.2.1 0 = .ok (.iconst (-1), 1) := by decide +kernel
theorem d_mo_lastChild_1 : decode m_mo_lastChild.2.2.1 1 = .ok (.istore_n 2, 1) := by decide +kernel
theorem d_mo_lastChild_2 : decode m_mo_lastChild.2.2.1 2 = .ok (.iconst 0, 1) := by decide +kernel
theorem d_mo_lastChild_3 : decode m_mo_lastChild.2.2.1 3 = .ok (.istore_n 3, 1) := by decide +kernel
theorem d_mo_lastChild_4 : decode m_mo_lastChild.2.2.1 4 = .ok (.iload_n 3, 1) := by decide +kernel
theorem d_mo_lastChild_5 : decode m_mo_lastChild.2.2.1 5 = .ok (.aload_n 0, 1) := by decide +kernel
theorem d_mo_lastChild_6 : decode m_mo_lastChild.2.2.1 6 = .ok (.getfield 144, 3) := by decide +kernel
theorem d_mo_lastChild_9 : decode m_mo_lastChild.2.2.1 9 = .ok (.if_icmp .ge 65, 3) := by decide +kernel
theorem d_mo_lastChild_12 : decode m_mo_lastChild.2.2.1 12 = .ok (.aload_n 0, 1) := by decide +kernel
theorem d_mo_lastChild_13 : decode m_mo_lastChild.2.2.1 13 = .ok (.getfield 62, 3) := by decide +kernel
theorem d_mo_lastChild_16 : decode m_mo_lastChild.2.2.1 16 = .ok (.iload_n 3, 1) := by decide +kernel
theorem d_mo_lastChild_17 : decode m_mo_lastChild.2.2.1 17 = .ok (.baload, 1) := by decide +kernel
theorem d_mo_lastChild_18 : decode m_mo_lastChild.2.2.1 18 = .ok (.ifCond .eq 17, 3) := by decide +kernel
theorem d_mo_lastChild_21 : decode m_mo_lastChild.2.2.1 21 = .ok (.aload_n 0, 1) := by decide +kernel
theorem d_mo_lastChild_22 : decode m_mo_lastChild.2.2.1 22 = .ok (.getfield 40, 3) := by decide +kernel
theorem d_mo_lastChild_25 : decode m_mo_lastChild.2.2.1 25 = .ok (.iload_n 3, 1) := by decide +kernel
theorem d_mo_lastChild_26 : decode m_mo_lastChild.2.2.1 26 = .ok (.iaload, 1) := by decide +kernel
theorem d_mo_lastChild_27 : decode m_mo_lastChild.2.2.1 27 = .ok (.iload_n 1, 1) := by decide +kernel
theorem d_mo_lastChild_28 : decode m_mo_lastChild.2.2.1 28 = .ok (.if_icmp .ne 7, 3) := by decide +kernel
theorem d_mo_lastChild_31 : decode m_mo_lastChild.2.2.1 31 = .ok (.iconst 1, 1) := by decide +kernel
theorem d_mo_lastChild_32 : decode m_mo_lastChild.2.2.1 32 = .ok (.goto 4, 3) := by decide +kernel
theorem d_mo_lastChild_35 : decode m_mo_lastChild.2.2.1 35 = .ok (.iconst 0, 1) := by decide +kernel
theorem d_mo_lastChild_36 : decode m_mo_lastChild.2.2.1 36 = .ok (.istore 4, 2) := by decide +kernel
theorem d_mo_lastChild_38 : decode m_mo_lastChild.2.2.1 38 = .ok (.iload 4, 2) := by decide +kernel
theorem d_mo_lastChild_40 : decode m_mo_lastChild.2.2.1 40 = .ok (.ifCond .eq 26, 3) := by decide +kernel
theorem d_mo_lastChild_43 : decode m_mo_lastChild.2.2.1 43 = .ok (.iload_n 2, 1) := by decide +kernel
theorem d_mo_lastChild_44 : decode m_mo_lastChild.2.2.1 44 = .ok (.ifCond .lt 18, 3) := by decide +kernel
theorem d_mo_lastChild_47 : decode m_mo_lastChild.2.2.1 47 = .ok (.aload_n 0, 1) := by decide +kernel
theorem d_mo_lastChild_48 : decode m_mo_lastChild.2.2.1 48 = .ok (.getfield 46, 3) := by decide +kernel
theorem d_mo_lastChild_51 : decode m_mo_lastChild.2.2.1 51 = .ok (.iload_n 3, 1) := by decide +kernel
theorem d_mo_lastChild_52 : decode m_mo_lastChild.2.2.1 52 = .ok (.iaload, 1) := by decide +kernel
theorem d_mo_lastChild_53 : decode m_mo_lastChild.2.2.1 53 = .ok (.aload_n 0, 1) := by decide +kernel
theorem d_mo_lastChild_54 : decode m_mo_lastChild.2.2.1 54 = .ok (.getfield 46, 3) := by decide +kernel
theorem d_mo_lastChild_57 : decode m_mo_lastChild.2.2.1 57 = .ok (.iload_n 2, 1) := by decide +kernel
theorem d_mo_lastChild_58 : decode m_mo_lastChild.2.2.1 58 = .ok (.iaload, 1) := by decide +kernel
theorem d_mo_lastChild_59 : decode m_mo_lastChild.2.2.1 59 = .ok (.if_icmp .le 7, 3) := by decide +kernel
theorem d_mo_lastChild_62 : decode m_mo_lastChild.2.2.1 62 = .ok (.iload_n 3, 1) := by decide +kernel
theorem d_mo_lastChild_63 : decode m_mo_lastChild.2.2.1 63 = .ok (.goto 4, 3) := by decide +kernel
theorem d_mo_lastChild_66 : decode m_mo_lastChild.2.2.1 66 = .ok (.iload_n 2, 1) := by decide +kernel
theorem d_mo_lastChild_67 : decode m_mo_lastChild.2.2.1 67 = .ok (.istore_n 2, 1) := by decide +kernel
theorem d_mo_lastChild_68 : decode m_mo_lastChild.2.2.1 68 = .ok (.iinc 3 1, 3) := by decide +kernel
theorem d_mo_lastChild_71 : decode m_mo_lastChild.2.2.1 71 = .ok (.goto (-67), 3) := by decide +kernel
theorem d_mo_lastChild_74 : decode m_mo_lastChild.2.2.1 74 = .ok (.iload_n 2, 1) := by decide +kernel
theorem d_mo_lastChild_75 : decode m_mo_lastChild.2.2.1 75 = .ok (.ireturn, 1) := by decide +kernel
theorem d_mo_orderChildren_0 : decode m_mo_orderChildren.2.2.1 0 = .ok (.aload_n 0, 1) := by decide +kernel
theorem d_mo_orderChildren_1 : decode m_mo_orderChildren.2.2.1 1 = .ok (.iload_n 1, 1) := by decide +kernel
theorem d_mo_orderChildren_2 : decode m_mo_orderChildren.2.2.1 2 = .ok (.iconst 0, 1) := by decide +kernel
theorem d_mo_orderChildren_3 : decode m_mo_orderChildren.2.2.1 3 = .ok (.invokevirtual 165, 3) := by decide +kernel
theorem d_mo_orderChildren_6 : decode m_mo_orderChildren.2.2.1 6 = .ok (.istore_n 2, 1) := by decide +kernel
theorem d_mo_orderChildren_7 : decode m_mo_orderChildren.2.2.1 7 = .ok (.iload_n 2, 1) := by decide +kernel
theorem d_mo_orderChildren_8 : decode m_mo_orderChildren.2.2.1 8 = .ok (.ifCond .lt 53, 3) := by decide +kernel
theorem d_mo_orderChildren_11 : decode m_mo_orderChildren.2.2.1 11 = .ok (.aload_n 0, 1) := by decide +kernel
theorem d_mo_orderChildren_12 : decode m_mo_orderChildren.2.2.1 12 = .ok (.getfield 65, 3) := by decide +kernel
theorem d_mo_orderChildren_15 : decode m_mo_orderChildren.2.2.1 15 = .ok (.aload_n 0, 1) := by decide +kernel
theorem d_mo_orderChildren_16 : decode m_mo_orderChildren.2.2.1 16 = .ok (.getfield 169, 3) := by decide +kernel
theorem d_mo_orderChildren_19 : decode m_mo_orderChildren.2.2.1 19 = .ok (.iload_n 2, 1) := by decide +kernel
theorem d_mo_orderChildren_20 : decode m_mo_orderChildren.2.2.1 20 = .ok (.iastore, 1) := by decide +kernel
theorem d_mo_orderChildren_21 : decode m_mo_orderChildren.2.2.1 21 = .ok (.aload_n 0, 1) := by decide +kernel
theorem d_mo_orderChildren_22 : decode m_mo_orderChildren.2.2.1 22 = .ok (.dup, 1) := by decide +kernel
theorem d_mo_orderChildren_23 : decode m_mo_orderChildren.2.2.1 23 = .ok (.getfield 169, 3) := by decide +kernel
theorem d_mo_orderChildren_26 : decode m_mo_orderChildren.2.2.1 26 = .ok (.iconst 1, 1) := by decide +kernel
theorem d_mo_orderChildren_27 : decode m_mo_orderChildren.2.2.1 27 = .ok (.iadd, 1) := by decide +kernel
theorem d_mo_orderChildren_28 : decode m_mo_orderChildren.2.2.1 28 = .ok (.putfield 169, 3) := by decide +kernel
theorem d_mo_orderChildren_31 : decode m_mo_orderChildren.2.2.1 31 = .ok (.aload_n 0, 1) := by decide +kernel
theorem d_mo_orderChildren_32 : decode m_mo_orderChildren.2.2.1 32 = .ok (.getfield 43, 3) := by decide +kernel
theorem d_mo_orderChildren_35 : decode m_mo_orderChildren.2.2.1 35 = .ok (.iload_n 2, 1) := by decide +kernel
theorem d_mo_orderChildren_36 : decode m_mo_orderChildren.2.2.1 36 = .ok (.iaload, 1) := by decide +kernel
theorem d_mo_orderChildren_37 : decode m_mo_orderChildren.2.2.1 37 = .ok (.iconst 3, 1) := by decide +kernel
theorem d_mo_orderChildren_38 : decode m_mo_orderChildren.2.2.1 38 = .ok (.if_icmp .ge 8, 3) := by decide +kernel
theorem d_mo_orderChildren_41 : decode m_mo_orderChildren.2.2.1 41 = .ok (.aload_n 0, 1) := by decide +kernel
theorem d_mo_orderChildren_42 : decode m_mo_orderChildren.2.2.1 42 = .ok (.iload_n 2, 1) := by decide +kernel
theorem d_mo_orderChildren_43 : decode m_mo_orderChildren.2.2.1 43 = .ok (.invokevirtual 172, 3) := by decide +kernel
theorem d_mo_orderChildren_46 : decode m_mo_orderChildren.2.2.1 46 = .ok (.aload_n 0, 1) := by decide +kernel
theorem d_mo_orderChildren_47 : decode m_mo_orderChildren.2.2.1 47 = .ok (.iload_n 1, 1) := by decide +kernel
theorem d_mo_orderChildren_48 : decode m_mo_orderChildren.2.2.1 48 = .ok (.aload_n 0, 1) := by decide +kernel
theorem d_mo_orderChildren_49 : decode m_mo_orderChildren.2.2.1 49 = .ok (.getfield 46, 3) := by decide +kernel
theorem d_mo_orderChildren_52 : decode m_mo_orderChildren.2.2.1 52 = .ok (.iload_n 2, 1) := by decide +kernel
theorem d_mo_orderChildren_53 : decode m_mo_orderChildren.2.2.1 53 = .ok (.iaload, 1) := by decide +kernel
theorem d_mo_orderChildren_54 : decode m_mo_orderChildren.2.2.1 54 = .ok (.invokevirtual 165, 3) := by decide +kernel
theorem d_mo_orderChildren_57 : decode m_mo_orderChildren.2.2.1 57 = .ok (.istore_n 2, 1) := by decide +kernel
theorem d_mo_orderChildren_58 : decode m_mo_orderChildren.2.2.1 58 = .ok (.goto (-51), 3) := by decide +kernel
theorem d_mo_orderChildren_61 : decode m_mo_orderChildren.2.2.1 61 = .ok (.return_, 1) := by decide +kernel
theorem d_mo_orderVersion_0 : decode m_mo_orderVersion.2.2.1 0 = .ok (.aload_n 0, 1) := by decide +kernel
theorem d_mo_orderVersion_1 : decode m_mo_orderVersion.2.2.1 1 = .ok (.iconst 0, 1) := by decide +kernel
theorem d_mo_orderVersion_2 : decode m_mo_orderVersion.2.2.1 2 = .ok (.putfield 169, 3) := by decide +kernel
theorem d_mo_orderVersion_5 : decode m_mo_orderVersion.2.2.1 5 = .ok (.aload_n 0, 1) := by decide +kernel
theorem d_mo_orderVersion_6 : decode m_mo_orderVersion.2.2.1 6 = .ok (.iconst (-1), 1) := by decide +kernel
theorem d_mo_orderVersion_7 : decode m_mo_orderVersion.2.2.1 7 = .ok (.invokevirtual 172, 3) := by decide +kernel
theorem d_mo_orderVersion_10 : decode m_mo_orderVersion.2.2.1 10 = .ok (.return_, 1) := by decide +kernel
theorem d_mo_suffixLength_0 : decode m_mo_suffixLength.2.2.1 0 = .ok (.iload_n 0, 1) := by decide +kernel
theorem d_mo_suffixLength_1 : decode m_mo_suffixLength.2.2.1 1 = .ok (.ifCond .ne 7, 3) := by decide +kernel
theorem d_mo_suffixLength_4 : decode m_mo_suffixLength.2.2.1 4 = .ok (.iconst 0, 1) := by decide +kernel
theorem d_mo_suffixLength_5 : decode m_mo_suffixLength.2.2.1 5 = .ok (.goto 27, 3) := by decide +kernel
theorem d_mo_suffixLength_8 : decode m_mo_suffixLength.2.2.1 8 = .ok (.iload_n 0, 1) := by decide +kernel
theorem d_mo_suffixLength_9 : decode m_mo_suffixLength.2.2.1 9 = .ok (.sipush 729, 3) := by decide +kernel
theorem d_mo_suffixLength_12 : decode m_mo_suffixLength.2.2.1 12 = .ok (.irem, 1) := by decide +kernel
theorem d_mo_suffixLength_13 : decode m_mo_suffixLength.2.2.1 13 = .ok (.ifCond .ne 7, 3) := by decide +kernel
theorem d_mo_suffixLength_16 : decode m_mo_suffixLength.2.2.1 16 = .ok (.iconst 1, 1) := by decide +kernel
theorem d_mo_suffixLength_17 : decode m_mo_suffixLength.2.2.1 17 = .ok (.goto 15, 3) := by decide +kernel
theorem d_mo_suffixLength_20 : decode m_mo_suffixLength.2.2.1 20 = .ok (.iload_n 0, 1) := by decide +kernel
theorem d_mo_suffixLength_21 : decode m_mo_suffixLength.2.2.1 21 = .ok (.bipush 27, 2) := by decide +kernel
theorem d_mo_suffixLength_23 : decode m_mo_suffixLength.2.2.1 23 = .ok (.irem, 1) := by decide +kernel
theorem d_mo_suffixLength_24 : decode m_mo_suffixLength.2.2.1 24 = .ok (.ifCond .ne 7, 3) := by decide +kernel
theorem d_mo_suffixLength_27 : decode m_mo_suffixLength.2.2.1 27 = .ok (.iconst 2, 1) := by decide +kernel
theorem d_mo_suffixLength_28 : decode m_mo_suffixLength.2.2.1 28 = .ok (.goto 4, 3) := by decide +kernel
theorem d_mo_suffixLength_31 : decode m_mo_suffixLength.2.2.1 31 = .ok (.iconst 3, 1) := by decide +kernel
theorem d_mo_suffixLength_32 : decode m_mo_suffixLength.2.2.1 32 = .ok (.ireturn, 1) := by decide +kernel
theorem d_mo_isSuffix_0 : decode m_mo_isSuffix.2.2.1 0 = .ok (.iload_n 0, 1) := by decide +kernel
theorem d_mo_isSuffix_1 : decode m_mo_isSuffix.2.2.1 1 = .ok (.sipush 729, 3) := by decide +kernel
theorem d_mo_isSuffix_4 : decode m_mo_isSuffix.2.2.1 4 = .ok (.idiv, 1) := by decide +kernel
theorem d_mo_isSuffix_5 : decode m_mo_isSuffix.2.2.1 5 = .ok (.istore_n 1, 1) := by decide +kernel
theorem d_mo_isSuffix_6 : decode m_mo_isSuffix.2.2.1 6 = .ok (.iload_n 0, 1) := by decide +kernel
theorem d_mo_isSuffix_7 : decode m_mo_isSuffix.2.2.1 7 = .ok (.bipush 27, 2) := by decide +kernel
theorem d_mo_isSuffix_9 : decode m_mo_isSuffix.2.2.1 9 = .ok (.idiv, 1) := by decide +kernel
theorem d_mo_isSuffix_10 : decode m_mo_isSuffix.2.2.1 10 = .ok (.bipush 27, 2) := by decide +kernel
theorem d_mo_isSuffix_12 : decode m_mo_isSuffix.2.2.1 12 = .ok (.irem, 1) := by decide +kernel
theorem d_mo_isSuffix_13 : decode m_mo_isSuffix.2.2.1 13 = .ok (.istore_n 2, 1) := by decide +kernel
theorem d_mo_isSuffix_14 : decode m_mo_isSuffix.2.2.1 14 = .ok (.iload_n 0, 1) := by decide +kernel
theorem d_mo_isSuffix_15 : decode m_mo_isSuffix.2.2.1 15 = .ok (.bipush 27, 2) := by decide +kernel
theorem d_mo_isSuffix_17 : decode m_mo_isSuffix.2.2.1 17 = .ok (.irem, 1) := by decide +kernel
theorem d_mo_isSuffix_18 : decode m_mo_isSuffix.2.2.1 18 = .ok (.istore_n 3, 1) := by decide +kernel
theorem d_mo_isSuffix_19 : decode m_mo_isSuffix.2.2.1 19 = .ok (.iload_n 1, 1) := by decide +kernel
theorem d_mo_isSuffix_20 : decode m_mo_isSuffix.2.2.1 20 = .ok (.ifCond .le 15, 3) := by decide +kernel
theorem d_mo_isSuffix_23 : decode m_mo_isSuffix.2.2.1 23 = .ok (.iload_n 2, 1) := by decide +kernel
theorem d_mo_isSuffix_24 : decode m_mo_isSuffix.2.2.1 24 = .ok (.ifCond .gt 7, 3) := by decide +kernel
theorem d_mo_isSuffix_27 : decode m_mo_isSuffix.2.2.1 27 = .ok (.iload_n 3, 1) := by decide +kernel
theorem d_mo_isSuffix_28 : decode m_mo_isSuffix.2.2.1 28 = .ok (.ifCond .ne 7, 3) := by decide +kernel
theorem d_mo_isSuffix_31 : decode m_mo_isSuffix.2.2.1 31 = .ok (.iconst 1, 1) := by decide +kernel
theorem d_mo_isSuffix_32 : decode m_mo_isSuffix.2.2.1 32 = .ok (.goto 4, 3) := by decide +kernel
theorem d_mo_isSuffix_35 : decode m_mo_isSuffix.2.2.1 35 = .ok (.iconst 0, 1) := by decide +kernel
theorem d_mo_isSuffix_36 : decode m_mo_isSuffix.2.2.1 36 = .ok (.ireturn, 1) := by decide +kernel
theorem d_mo_suffixBetween_0 : decode m_mo_suffixBetween.2.2.1 0 = .ok (.iconst 1, 1) := by decide +kernel
theorem d_mo_suffixBetween_1 : decode m_mo_suffixBetween.2.2.1 1 = .ok (.istore_n 2, 1) := by decide +kernel
theorem d_mo_suffixBetween_2 : decode m_mo_suffixBetween.2.2.1 2 = .ok (.iload_n 2, 1) := by decide +kernel
theorem d_mo_suffixBetween_3 : decode m_mo_suffixBetween.2.2.1 3 = .ok (.iconst 3, 1) := by decide +kernel
theorem d_mo_suffixBetween_4 : decode m_mo_suffixBetween.2.2.1 4 = .ok (.if_icmp .gt 76, 3) := by decide +kernel
theorem d_mo_suffixBetween_7 : decode m_mo_suffixBetween.2.2.1 7 = .ok (.iload_n 2, 1) := by decide +kernel
theorem d_mo_suffixBetween_8 : decode m_mo_suffixBetween.2.2.1 8 = .ok (.iconst 1, 1) := by decide +kernel
theorem d_mo_suffixBetween_9 : decode m_mo_suffixBetween.2.2.1 9 = .ok (.if_icmp .ne 9, 3) := by decide +kernel
theorem d_mo_suffixBetween_12 : decode m_mo_suffixBetween.2.2.1 12 = .ok (.sipush 729, 3) := by decide +kernel
theorem d_mo_suffixBetween_15 : decode m_mo_suffixBetween.2.2.1 15 = .ok (.goto 14, 3) := by decide +kernel
theorem d_mo_suffixBetween_18 : decode m_mo_suffixBetween.2.2.1 18 = .ok (.iload_n 2, 1) := by decide +kernel
theorem d_mo_suffixBetween_19 : decode m_mo_suffixBetween.2.2.1 19 = .ok (.iconst 2, 1) := by decide +kernel
theorem d_mo_suffixBetween_20 : decode m_mo_suffixBetween.2.2.1 20 = .ok (.if_icmp .ne 8, 3) := by decide +kernel
theorem d_mo_suffixBetween_23 : decode m_mo_suffixBetween.2.2.1 23 = .ok (.bipush 27, 2) := by decide +kernel
theorem d_mo_suffixBetween_25 : decode m_mo_suffixBetween.2.2.1 25 = .ok (.goto 4, 3) := by decide +kernel
theorem d_mo_suffixBetween_28 : decode m_mo_suffixBetween.2.2.1 28 = .ok (.iconst 1, 1) := by decide +kernel
theorem d_mo_suffixBetween_29 : decode m_mo_suffixBetween.2.2.1 29 = .ok (.istore_n 3, 1) := by decide +kernel
theorem d_mo_suffixBetween_30 : decode m_mo_suffixBetween.2.2.1 30 = .ok (.iload_n 0, 1) := by decide +kernel
theorem d_mo_suffixBetween_31 : decode m_mo_suffixBetween.2.2.1 31 = .ok (.iload_n 3, 1) := by decide +kernel
theorem d_mo_suffixBetween_32 : decode m_mo_suffixBetween.2.2.1 32 = .ok (.idiv, 1) := by decide +kernel
theorem d_mo_suffixBetween_33 : decode m_mo_suffixBetween.2.2.1 33 = .ok (.iconst 1, 1) := by decide +kernel
theorem d_mo_suffixBetween_34 : decode m_mo_suffixBetween.2.2.1 34 = .ok (.iadd, 1) := by decide +kernel
theorem d_mo_suffixBetween_35 : decode m_mo_suffixBetween.2.2.1 35 = .ok (.iload_n 3, 1) := by decide +kernel
theorem d_mo_suffixBetween_36 : decode m_mo_suffixBetween.2.2.1 36 = .ok (.imul, 1) := by decide +kernel
theorem d_mo_suffixBetween_37 : decode m_mo_suffixBetween.2.2.1 37 = .ok (.istore 4, 2) := by decide +kernel
theorem d_mo_suffixBetween_39 : decode m_mo_suffixBetween.2.2.1 39 = .ok (.iload 4, 2) := by decide +kernel
theorem d_mo_suffixBetween_41 : decode m_mo_suffixBetween.2.2.1 41 = .ok (.iload_n 1, 1) := by decide +kernel
theorem d_mo_suffixBetween_42 : decode m_mo_suffixBetween.2.2.1 42 = .ok (.if_icmp .ge 32, 3) := by decide +kernel
theorem d_mo_suffixBetween_45 : decode m_mo_suffixBetween.2.2.1 45 = .ok (.iload 4, 2) := by decide +kernel
theorem d_mo_suffixBetween_47 : decode m_mo_suffixBetween.2.2.1 47 = .ok (.invokestatic 176, 3) := by decide +kernel
theorem d_mo_suffixBetween_50 : decode m_mo_suffixBetween.2.2.1 50 = .ok (.ifCond .eq 15, 3) := by decide +kernel
theorem d_mo_suffixBetween_53 : decode m_mo_suffixBetween.2.2.1 53 = .ok (.iload 4, 2) := by decide +kernel
theorem d_mo_suffixBetween_55 : decode m_mo_suffixBetween.2.2.1 55 = .ok (.invokestatic 180, 3) := by decide +kernel
theorem d_mo_suffixBetween_58 : decode m_mo_suffixBetween.2.2.1 58 = .ok (.iload_n 2, 1) := by decide +kernel
theorem d_mo_suffixBetween_59 : decode m_mo_suffixBetween.2.2.1 59 = .ok (.if_icmp .ne 6, 3) := by decide +kernel
theorem d_mo_suffixBetween_62 : decode m_mo_suffixBetween.2.2.1 62 = .ok (.iload 4, 2) := by decide +kernel
theorem d_mo_suffixBetween_64 : decode m_mo_suffixBetween.2.2.1 64 = .ok (.ireturn, 1) := by decide +kernel
theorem d_mo_suffixBetween_65 : decode m_mo_suffixBetween.2.2.1 65 = .ok (.iload 4, 2) := by decide +kernel
theorem d_mo_suffixBetween_67 : decode m_mo_suffixBetween.2.2.1 67 = .ok (.iload_n 3, 1) := by decide +kernel
theorem d_mo_suffixBetween_68 : decode m_mo_suffixBetween.2.2.1 68 = .ok (.iadd, 1) := by decide +kernel
theorem d_mo_suffixBetween_69 : decode m_mo_suffixBetween.2.2.1 69 = .ok (.istore 4, 2) := by decide +kernel
theorem d_mo_suffixBetween_71 : decode m_mo_suffixBetween.2.2.1 71 = .ok (.goto (-32), 3) := by decide +kernel
theorem d_mo_suffixBetween_74 : decode m_mo_suffixBetween.2.2.1 74 = .ok (.iinc 2 1, 3) := by decide +kernel
theorem d_mo_suffixBetween_77 : decode m_mo_suffixBetween.2.2.1 77 = .ok (.goto (-75), 3) := by decide +kernel
theorem d_mo_suffixBetween_80 : decode m_mo_suffixBetween.2.2.1 80 = .ok (.iconst (-1), 1) := by decide +kernel
theorem d_mo_suffixBetween_81 : decode m_mo_suffixBetween.2.2.1 81 = .ok (.ireturn, 1) := by decide +kernel
theorem d_mo_labelAfter_0 : decode m_mo_labelAfter.2.2.1 0 = .ok (.aload_n 0, 1) := by decide +kernel
theorem d_mo_labelAfter_1 : decode m_mo_labelAfter.2.2.1 1 = .ok (.aload_n 0, 1) := by decide +kernel
theorem d_mo_labelAfter_2 : decode m_mo_labelAfter.2.2.1 2 = .ok (.getfield 40, 3) := by decide +kernel
theorem d_mo_labelAfter_5 : decode m_mo_labelAfter.2.2.1 5 = .ok (.iload_n 1, 1) := by decide +kernel
theorem d_mo_labelAfter_6 : decode m_mo_labelAfter.2.2.1 6 = .ok (.iaload, 1) := by decide +kernel
theorem d_mo_labelAfter_7 : decode m_mo_labelAfter.2.2.1 7 = .ok (.aload_n 0, 1) := by decide +kernel
theorem d_mo_labelAfter_8 : decode m_mo_labelAfter.2.2.1 8 = .ok (.getfield 46, 3) := by decide +kernel
theorem d_mo_labelAfter_11 : decode m_mo_labelAfter.2.2.1 11 = .ok (.iload_n 1, 1) := by decide +kernel
theorem d_mo_labelAfter_12 : decode m_mo_labelAfter.2.2.1 12 = .ok (.iaload, 1) := by decide +kernel
theorem d_mo_labelAfter_13 : decode m_mo_labelAfter.2.2.1 13 = .ok (.invokevirtual 165, 3) := by decide +kernel
theorem d_mo_labelAfter_16 : decode m_mo_labelAfter.2.2.1 16 = .ok (.istore_n 2, 1) := by decide +kernel
theorem d_mo_labelAfter_17 : decode m_mo_labelAfter.2.2.1 17 = .ok (.iload_n 2, 1) := by decide +kernel
theorem d_mo_labelAfter_18 : decode m_mo_labelAfter.2.2.1 18 = .ok (.ifCond .lt 30, 3) := by decide +kernel
theorem d_mo_labelAfter_21 : decode m_mo_labelAfter.2.2.1 21 = .ok (.aload_n 0, 1) := by decide +kernel
theorem d_mo_labelAfter_22 : decode m_mo_labelAfter.2.2.1 22 = .ok (.getfield 46, 3) := by decide +kernel
theorem d_mo_labelAfter_25 : decode m_mo_labelAfter.2.2.1 25 = .ok (.iload_n 2, 1) := by decide +kernel
theorem d_mo_labelAfter_26 : decode m_mo_labelAfter.2.2.1 26 = .ok (.iaload, 1) := by decide +kernel
theorem d_mo_labelAfter_27 : decode m_mo_labelAfter.2.2.1 27 = .ok (.sipush 19683, 3) := by decide +kernel
theorem d_mo_labelAfter_30 : decode m_mo_labelAfter.2.2.1 30 = .ok (.idiv, 1) := by decide +kernel
theorem d_mo_labelAfter_31 : decode m_mo_labelAfter.2.2.1 31 = .ok (.aload_n 0, 1) := by decide +kernel
theorem d_mo_labelAfter_32 : decode m_mo_labelAfter.2.2.1 32 = .ok (.getfield 46, 3) := by decide +kernel
theorem d_mo_labelAfter_35 : decode m_mo_labelAfter.2.2.1 35 = .ok (.iload_n 1, 1) := by decide +kernel
theorem d_mo_labelAfter_36 : decode m_mo_labelAfter.2.2.1 36 = .ok (.iaload, 1) := by decide +kernel
theorem d_mo_labelAfter_37 : decode m_mo_labelAfter.2.2.1 37 = .ok (.sipush 19683, 3) := by decide +kernel
theorem d_mo_labelAfter_40 : decode m_mo_labelAfter.2.2.1 40 = .ok (.idiv, 1) := by decide +kernel
theorem d_mo_labelAfter_41 : decode m_mo_labelAfter.2.2.1 41 = .ok (.if_icmp .ne 7, 3) := by decide +kernel
theorem d_mo_labelAfter_44 : decode m_mo_labelAfter.2.2.1 44 = .ok (.iconst 1, 1) := by decide +kernel
theorem d_mo_labelAfter_45 : decode m_mo_labelAfter.2.2.1 45 = .ok (.goto 4, 3) := by decide +kernel
theorem d_mo_labelAfter_48 : decode m_mo_labelAfter.2.2.1 48 = .ok (.iconst 0, 1) := by decide +kernel
theorem d_mo_labelAfter_49 : decode m_mo_labelAfter.2.2.1 49 = .ok (.istore_n 3, 1) := by decide +kernel
theorem d_mo_labelAfter_50 : decode m_mo_labelAfter.2.2.1 50 = .ok (.aload_n 0, 1) := by decide +kernel
theorem d_mo_labelAfter_51 : decode m_mo_labelAfter.2.2.1 51 = .ok (.getfield 46, 3) := by decide +kernel
theorem d_mo_labelAfter_54 : decode m_mo_labelAfter.2.2.1 54 = .ok (.iload_n 1, 1) := by decide +kernel
theorem d_mo_labelAfter_55 : decode m_mo_labelAfter.2.2.1 55 = .ok (.iaload, 1) := by decide +kernel
theorem d_mo_labelAfter_56 : decode m_mo_labelAfter.2.2.1 56 = .ok (.sipush 19683, 3) := by decide +kernel
theorem d_mo_labelAfter_59 : decode m_mo_labelAfter.2.2.1 59 = .ok (.irem, 1) := by decide +kernel
theorem d_mo_labelAfter_60 : decode m_mo_labelAfter.2.2.1 60 = .ok (.iload_n 3, 1) := by decide +kernel
theorem d_mo_labelAfter_61 : decode m_mo_labelAfter.2.2.1 61 = .ok (.ifCond .eq 16, 3) := by decide +kernel
theorem d_mo_labelAfter_64 : decode m_mo_labelAfter.2.2.1 64 = .ok (.aload_n 0, 1) := by decide +kernel
theorem d_mo_labelAfter_65 : decode m_mo_labelAfter.2.2.1 65 = .ok (.getfield 46, 3) := by decide +kernel
theorem d_mo_labelAfter_68 : decode m_mo_labelAfter.2.2.1 68 = .ok (.iload_n 2, 1) := by decide +kernel
theorem d_mo_labelAfter_69 : decode m_mo_labelAfter.2.2.1 69 = .ok (.iaload, 1) := by decide +kernel
theorem d_mo_labelAfter_70 : decode m_mo_labelAfter.2.2.1 70 = .ok (.sipush 19683, 3) := by decide +kernel
theorem d_mo_labelAfter_73 : decode m_mo_labelAfter.2.2.1 73 = .ok (.irem, 1) := by decide +kernel
theorem d_mo_labelAfter_74 : decode m_mo_labelAfter.2.2.1 74 = .ok (.goto 6, 3) := by decide +kernel
theorem d_mo_labelAfter_77 : decode m_mo_labelAfter.2.2.1 77 = .ok (.sipush 19683, 3) := by decide +kernel
theorem d_mo_labelAfter_80 : decode m_mo_labelAfter.2.2.1 80 = .ok (.invokestatic 183, 3) := by decide +kernel
theorem d_mo_labelAfter_83 : decode m_mo_labelAfter.2.2.1 83 = .ok (.istore 4, 2) := by decide +kernel
theorem d_mo_labelAfter_85 : decode m_mo_labelAfter.2.2.1 85 = .ok (.iload 4, 2) := by decide +kernel
theorem d_mo_labelAfter_87 : decode m_mo_labelAfter.2.2.1 87 = .ok (.ifCond .ge 7, 3) := by decide +kernel
theorem d_mo_labelAfter_90 : decode m_mo_labelAfter.2.2.1 90 = .ok (.iconst (-1), 1) := by decide +kernel
theorem d_mo_labelAfter_91 : decode m_mo_labelAfter.2.2.1 91 = .ok (.goto 20, 3) := by decide +kernel
theorem d_mo_labelAfter_94 : decode m_mo_labelAfter.2.2.1 94 = .ok (.aload_n 0, 1) := by decide +kernel
theorem d_mo_labelAfter_95 : decode m_mo_labelAfter.2.2.1 95 = .ok (.getfield 46, 3) := by decide +kernel
theorem d_mo_labelAfter_98 : decode m_mo_labelAfter.2.2.1 98 = .ok (.iload_n 1, 1) := by decide +kernel
theorem d_mo_labelAfter_99 : decode m_mo_labelAfter.2.2.1 99 = .ok (.iaload, 1) := by decide +kernel
theorem d_mo_labelAfter_100 : decode m_mo_labelAfter.2.2.1 100 = .ok (.sipush 19683, 3) := by decide +kernel
theorem d_mo_labelAfter_103 : decode m_mo_labelAfter.2.2.1 103 = .ok (.idiv, 1) := by decide +kernel
theorem d_mo_labelAfter_104 : decode m_mo_labelAfter.2.2.1 104 = .ok (.sipush 19683, 3) := by decide +kernel
theorem d_mo_labelAfter_107 : decode m_mo_labelAfter.2.2.1 107 = .ok (.imul, 1) := by decide +kernel
theorem d_mo_labelAfter_108 : decode m_mo_labelAfter.2.2.1 108 = .ok (.iload 4, 2) := by decide +kernel
theorem d_mo_labelAfter_110 : decode m_mo_labelAfter.2.2.1 110 = .ok (.iadd, 1) := by decide +kernel
theorem d_mo_labelAfter_111 : decode m_mo_labelAfter.2.2.1 111 = .ok (.ireturn, 1) := by decide +kernel
theorem d_mo_labelAtEnd_0 : decode m_mo_labelAtEnd.2.2.1 0 = .ok (.aload_n 0, 1) := by decide +kernel
theorem d_mo_labelAtEnd_1 : decode m_mo_labelAtEnd.2.2.1 1 = .ok (.iload_n 1, 1) := by decide +kernel
theorem d_mo_labelAtEnd_2 : decode m_mo_labelAtEnd.2.2.1 2 = .ok (.invokevirtual 186, 3) := by decide +kernel
theorem d_mo_labelAtEnd_5 : decode m_mo_labelAtEnd.2.2.1 5 = .ok (.istore_n 2, 1) := by decide +kernel
theorem d_mo_labelAtEnd_6 : decode m_mo_labelAtEnd.2.2.1 6 = .ok (.iload_n 2, 1) := by decide +kernel
theorem d_mo_labelAtEnd_7 : decode m_mo_labelAtEnd.2.2.1 7 = .ok (.ifCond .ge 7, 3) := by decide +kernel
theorem d_mo_labelAtEnd_10 : decode m_mo_labelAtEnd.2.2.1 10 = .ok (.iconst 1, 1) := by decide +kernel
theorem d_mo_labelAtEnd_11 : decode m_mo_labelAtEnd.2.2.1 11 = .ok (.goto 15, 3) := by decide +kernel
theorem d_mo_labelAtEnd_14 : decode m_mo_labelAtEnd.2.2.1 14 = .ok (.aload_n 0, 1) := by decide +kernel
theorem d_mo_labelAtEnd_15 : decode m_mo_labelAtEnd.2.2.1 15 = .ok (.getfield 46, 3) := by decide +kernel
theorem d_mo_labelAtEnd_18 : decode m_mo_labelAtEnd.2.2.1 18 = .ok (.iload_n 2, 1) := by decide +kernel
theorem d_mo_labelAtEnd_19 : decode m_mo_labelAtEnd.2.2.1 19 = .ok (.iaload, 1) := by decide +kernel
theorem d_mo_labelAtEnd_20 : decode m_mo_labelAtEnd.2.2.1 20 = .ok (.sipush 19683, 3) := by decide +kernel
theorem d_mo_labelAtEnd_23 : decode m_mo_labelAtEnd.2.2.1 23 = .ok (.idiv, 1) := by decide +kernel
theorem d_mo_labelAtEnd_24 : decode m_mo_labelAtEnd.2.2.1 24 = .ok (.iconst 1, 1) := by decide +kernel
theorem d_mo_labelAtEnd_25 : decode m_mo_labelAtEnd.2.2.1 25 = .ok (.iadd, 1) := by decide +kernel
theorem d_mo_labelAtEnd_26 : decode m_mo_labelAtEnd.2.2.1 26 = .ok (.istore_n 3, 1) := by decide +kernel
theorem d_mo_labelAtEnd_27 : decode m_mo_labelAtEnd.2.2.1 27 = .ok (.iload_n 3, 1) := by decide +kernel
theorem d_mo_labelAtEnd_28 : decode m_mo_labelAtEnd.2.2.1 28 = .ok (.bipush 99, 2) := by decide +kernel
theorem d_mo_labelAtEnd_30 : decode m_mo_labelAtEnd.2.2.1 30 = .ok (.if_icmp .le 7, 3) := by decide +kernel
theorem d_mo_labelAtEnd_33 : decode m_mo_labelAtEnd.2.2.1 33 = .ok (.iconst (-1), 1) := by decide +kernel
theorem d_mo_labelAtEnd_34 : decode m_mo_labelAtEnd.2.2.1 34 = .ok (.goto 8, 3) := by decide +kernel
theorem d_mo_labelAtEnd_37 : decode m_mo_labelAtEnd.2.2.1 37 = .ok (.iload_n 3, 1) := by decide +kernel
theorem d_mo_labelAtEnd_38 : decode m_mo_labelAtEnd.2.2.1 38 = .ok (.sipush 19683, 3) := by decide +kernel
theorem d_mo_labelAtEnd_41 : decode m_mo_labelAtEnd.2.2.1 41 = .ok (.imul, 1) := by decide +kernel
theorem d_mo_labelAtEnd_42 : decode m_mo_labelAtEnd.2.2.1 42 = .ok (.ireturn, 1) := by decide +kernel
theorem d_mo_isOriginal_0 : decode m_mo_isOriginal.2.2.1 0 = .ok (.iload_n 1, 1) := by decide +kernel
theorem d_mo_isOriginal_1 : decode m_mo_isOriginal.2.2.1 1 = .ok (.iconst 0, 1) := by decide +kernel
theorem d_mo_isOriginal_2 : decode m_mo_isOriginal.2.2.1 2 = .ok (.aload_n 0, 1) := by decide +kernel
theorem d_mo_isOriginal_3 : decode m_mo_isOriginal.2.2.1 3 = .ok (.getfield 154, 3) := by decide +kernel
theorem d_mo_isOriginal_6 : decode m_mo_isOriginal.2.2.1 6 = .ok (.iconst 1, 1) := by decide +kernel
theorem d_mo_isOriginal_7 : decode m_mo_isOriginal.2.2.1 7 = .ok (.isub, 1) := by decide +kernel
theorem d_mo_isOriginal_8 : decode m_mo_isOriginal.2.2.1 8 = .ok (.invokestatic 189, 3) := by decide +kernel
theorem d_mo_isOriginal_11 : decode m_mo_isOriginal.2.2.1 11 = .ok (.ireturn, 1) := by decide +kernel
theorem d_mo_addOriginal_0 : decode m_mo_addOriginal.2.2.1 0 = .ok (.iload_n 2, 1) := by decide +kernel
theorem d_mo_addOriginal_1 : decode m_mo_addOriginal.2.2.1 1 = .ok (.ifCond .ge 6, 3) := by decide +kernel
theorem d_mo_addOriginal_4 : decode m_mo_addOriginal.2.2.1 4 = .ok (.bipush (-7), 2) := by decide +kernel
theorem d_mo_addOriginal_6 : decode m_mo_addOriginal.2.2.1 6 = .ok (.ireturn, 1) := by decide +kernel
theorem d_mo_addOriginal_7 : decode m_mo_addOriginal.2.2.1 7 = .ok (.aload_n 0, 1) := by decide +kernel
theorem d_mo_addOriginal_8 : decode m_mo_addOriginal.2.2.1 8 = .ok (.getfield 9, 3) := by decide +kernel
theorem d_mo_addOriginal_11 : decode m_mo_addOriginal.2.2.1 11 = .ok (.aload_n 0, 1) := by decide +kernel
theorem d_mo_addOriginal_12 : decode m_mo_addOriginal.2.2.1 12 = .ok (.getfield 154, 3) := by decide +kernel
theorem d_mo_addOriginal_15 : decode m_mo_addOriginal.2.2.1 15 = .ok (.iload_n 1, 1) := by decide +kernel
theorem d_mo_addOriginal_16 : decode m_mo_addOriginal.2.2.1 16 = .ok (.iastore, 1) := by decide +kernel
theorem d_mo_addOriginal_17 : decode m_mo_addOriginal.2.2.1 17 = .ok (.aload_n 0, 1) := by decide +kernel
theorem d_mo_addOriginal_18 : decode m_mo_addOriginal.2.2.1 18 = .ok (.getfield 13, 3) := by decide +kernel
theorem d_mo_addOriginal_21 : decode m_mo_addOriginal.2.2.1 21 = .ok (.aload_n 0, 1) := by decide +kernel
theorem d_mo_addOriginal_22 : decode m_mo_addOriginal.2.2.1 22 = .ok (.getfield 154, 3) := by decide +kernel
theorem d_mo_addOriginal_25 : decode m_mo_addOriginal.2.2.1 25 = .ok (.iload_n 2, 1) := by decide +kernel
theorem d_mo_addOriginal_26 : decode m_mo_addOriginal.2.2.1 26 = .ok (.iastore, 1) := by decide +kernel
theorem d_mo_addOriginal_27 : decode m_mo_addOriginal.2.2.1 27 = .ok (.aload_n 0, 1) := by decide +kernel
theorem d_mo_addOriginal_28 : decode m_mo_addOriginal.2.2.1 28 = .ok (.getfield 16, 3) := by decide +kernel
theorem d_mo_addOriginal_31 : decode m_mo_addOriginal.2.2.1 31 = .ok (.aload_n 0, 1) := by decide +kernel
theorem d_mo_addOriginal_32 : decode m_mo_addOriginal.2.2.1 32 = .ok (.getfield 154, 3) := by decide +kernel
theorem d_mo_addOriginal_35 : decode m_mo_addOriginal.2.2.1 35 = .ok (.iload_n 3, 1) := by decide +kernel
theorem d_mo_addOriginal_36 : decode m_mo_addOriginal.2.2.1 36 = .ok (.iastore, 1) := by decide +kernel
theorem d_mo_addOriginal_37 : decode m_mo_addOriginal.2.2.1 37 = .ok (.aload_n 0, 1) := by decide +kernel
theorem d_mo_addOriginal_38 : decode m_mo_addOriginal.2.2.1 38 = .ok (.getfield 19, 3) := by decide +kernel
theorem d_mo_addOriginal_41 : decode m_mo_addOriginal.2.2.1 41 = .ok (.aload_n 0, 1) := by decide +kernel
theorem d_mo_addOriginal_42 : decode m_mo_addOriginal.2.2.1 42 = .ok (.getfield 154, 3) := by decide +kernel
theorem d_mo_addOriginal_45 : decode m_mo_addOriginal.2.2.1 45 = .ok (.iconst 0, 1) := by decide +kernel
theorem d_mo_addOriginal_46 : decode m_mo_addOriginal.2.2.1 46 = .ok (.iastore, 1) := by decide +kernel
theorem d_mo_addOriginal_47 : decode m_mo_addOriginal.2.2.1 47 = .ok (.aload_n 0, 1) := by decide +kernel
theorem d_mo_addOriginal_48 : decode m_mo_addOriginal.2.2.1 48 = .ok (.dup, 1) := by decide +kernel
theorem d_mo_addOriginal_49 : decode m_mo_addOriginal.2.2.1 49 = .ok (.getfield 154, 3) := by decide +kernel
theorem d_mo_addOriginal_52 : decode m_mo_addOriginal.2.2.1 52 = .ok (.iconst 1, 1) := by decide +kernel
theorem d_mo_addOriginal_53 : decode m_mo_addOriginal.2.2.1 53 = .ok (.iadd, 1) := by decide +kernel
theorem d_mo_addOriginal_54 : decode m_mo_addOriginal.2.2.1 54 = .ok (.putfield 154, 3) := by decide +kernel
theorem d_mo_addOriginal_57 : decode m_mo_addOriginal.2.2.1 57 = .ok (.aload_n 0, 1) := by decide +kernel
theorem d_mo_addOriginal_58 : decode m_mo_addOriginal.2.2.1 58 = .ok (.getfield 154, 3) := by decide +kernel
theorem d_mo_addOriginal_61 : decode m_mo_addOriginal.2.2.1 61 = .ok (.iconst 1, 1) := by decide +kernel
theorem d_mo_addOriginal_62 : decode m_mo_addOriginal.2.2.1 62 = .ok (.isub, 1) := by decide +kernel
theorem d_mo_addOriginal_63 : decode m_mo_addOriginal.2.2.1 63 = .ok (.ireturn, 1) := by decide +kernel
theorem d_mo_addProvision_0 : decode m_mo_addProvision.2.2.1 0 = .ok (.iload_n 1, 1) := by decide +kernel
theorem d_mo_addProvision_1 : decode m_mo_addProvision.2.2.1 1 = .ok (.iconst (-1), 1) := by decide +kernel
theorem d_mo_addProvision_2 : decode m_mo_addProvision.2.2.1 2 = .ok (.if_icmp .eq 13, 3) := by decide +kernel
theorem d_mo_addProvision_5 : decode m_mo_addProvision.2.2.1 5 = .ok (.aload_n 0, 1) := by decide +kernel
theorem d_mo_addProvision_6 : decode m_mo_addProvision.2.2.1 6 = .ok (.iload_n 1, 1) := by decide +kernel
theorem d_mo_addProvision_7 : decode m_mo_addProvision.2.2.1 7 = .ok (.invokevirtual 193, 3) := by decide +kernel
theorem d_mo_addProvision_10 : decode m_mo_addProvision.2.2.1 10 = .ok (.ifCond .ne 5, 3) := by decide +kernel
theorem d_mo_addProvision_13 : decode m_mo_addProvision.2.2.1 13 = .ok (.iconst (-1), 1) := by decide +kernel
theorem d_mo_addProvision_14 : decode m_mo_addProvision.2.2.1 14 = .ok (.ireturn, 1) := by decide +kernel
theorem d_mo_addProvision_15 : decode m_mo_addProvision.2.2.1 15 = .ok (.iload_n 2, 1) := by decide +kernel
theorem d_mo_addProvision_16 : decode m_mo_addProvision.2.2.1 16 = .ok (.iconst 0, 1) := by decide +kernel
theorem d_mo_addProvision_17 : decode m_mo_addProvision.2.2.1 17 = .ok (.sipush 9999, 3) := by decide +kernel
theorem d_mo_addProvision_20 : decode m_mo_addProvision.2.2.1 20 = .ok (.invokestatic 189, 3) := by decide +kernel
theorem d_mo_addProvision_23 : decode m_mo_addProvision.2.2.1 23 = .ok (.ifCond .ne 6, 3) := by decide +kernel
theorem d_mo_addProvision_26 : decode m_mo_addProvision.2.2.1 26 = .ok (.bipush (-5), 2) := by decide +kernel
theorem d_mo_addProvision_28 : decode m_mo_addProvision.2.2.1 28 = .ok (.ireturn, 1) := by decide +kernel
theorem d_mo_addProvision_29 : decode m_mo_addProvision.2.2.1 29 = .ok (.iload_n 1, 1) := by decide +kernel
theorem d_mo_addProvision_30 : decode m_mo_addProvision.2.2.1 30 = .ok (.iconst (-1), 1) := by decide +kernel
theorem d_mo_addProvision_31 : decode m_mo_addProvision.2.2.1 31 = .ok (.if_icmp .eq 15, 3) := by decide +kernel
theorem d_mo_addProvision_34 : decode m_mo_addProvision.2.2.1 34 = .ok (.aload_n 0, 1) := by decide +kernel
theorem d_mo_addProvision_35 : decode m_mo_addProvision.2.2.1 35 = .ok (.iload_n 1, 1) := by decide +kernel
theorem d_mo_addProvision_36 : decode m_mo_addProvision.2.2.1 36 = .ok (.invokevirtual 157, 3) := by decide +kernel
theorem d_mo_addProvision_39 : decode m_mo_addProvision.2.2.1 39 = .ok (.iconst 3, 1) := by decide +kernel
theorem d_mo_addProvision_40 : decode m_mo_addProvision.2.2.1 40 = .ok (.if_icmp .ne 6, 3) := by decide +kernel
theorem d_mo_addProvision_43 : decode m_mo_addProvision.2.2.1 43 = .ok (.bipush (-8), 2) := by decide +kernel
theorem d_mo_addProvision_45 : decode m_mo_addProvision.2.2.1 45 = .ok (.ireturn, 1) := by decide +kernel
theorem d_mo_addProvision_46 : decode m_mo_addProvision.2.2.1 46 = .ok (.aload_n 0, 1) := by decide +kernel
theorem d_mo_addProvision_47 : decode m_mo_addProvision.2.2.1 47 = .ok (.getfield 154, 3) := by decide +kernel
theorem d_mo_addProvision_50 : decode m_mo_addProvision.2.2.1 50 = .ok (.bipush 30, 2) := by decide +kernel
theorem d_mo_addProvision_52 : decode m_mo_addProvision.2.2.1 52 = .ok (.if_icmp .ne 6, 3) := by decide +kernel
theorem d_mo_addProvision_55 : decode m_mo_addProvision.2.2.1 55 = .ok (.bipush (-6), 2) := by decide +kernel
theorem d_mo_addProvision_57 : decode m_mo_addProvision.2.2.1 57 = .ok (.ireturn, 1) := by decide +kernel
theorem d_mo_addProvision_58 : decode m_mo_addProvision.2.2.1 58 = .ok (.aload_n 0, 1) := by decide +kernel
theorem d_mo_addProvision_59 : decode m_mo_addProvision.2.2.1 59 = .ok (.invokevirtual 196, 3) := by decide +kernel
theorem d_mo_addProvision_62 : decode m_mo_addProvision.2.2.1 62 = .ok (.aload_n 0, 1) := by decide +kernel
theorem d_mo_addProvision_63 : decode m_mo_addProvision.2.2.1 63 = .ok (.iload_n 1, 1) := by decide +kernel
theorem d_mo_addProvision_64 : decode m_mo_addProvision.2.2.1 64 = .ok (.aload_n 0, 1) := by decide +kernel
theorem d_mo_addProvision_65 : decode m_mo_addProvision.2.2.1 65 = .ok (.iload_n 1, 1) := by decide +kernel
theorem d_mo_addProvision_66 : decode m_mo_addProvision.2.2.1 66 = .ok (.invokevirtual 199, 3) := by decide +kernel
theorem d_mo_addProvision_69 : decode m_mo_addProvision.2.2.1 69 = .ok (.iload_n 2, 1) := by decide +kernel
theorem d_mo_addProvision_70 : decode m_mo_addProvision.2.2.1 70 = .ok (.invokevirtual 202, 3) := by decide +kernel
theorem d_mo_addProvision_73 : decode m_mo_addProvision.2.2.1 73 = .ok (.ireturn, 1) := by decide +kernel
theorem d_mo_insertProvision_0 : decode m_mo_insertProvision.2.2.1 0 = .ok (.aload_n 0, 1) := by decide +kernel
theorem d_mo_insertProvision_1 : decode m_mo_insertProvision.2.2.1 1 = .ok (.iload_n 1, 1) := by decide +kernel
theorem d_mo_insertProvision_2 : decode m_mo_insertProvision.2.2.1 2 = .ok (.invokevirtual 193, 3) := by decide +kernel
theorem d_mo_insertProvision_5 : decode m_mo_insertProvision.2.2.1 5 = .ok (.ifCond .ne 5, 3) := by decide +kernel
theorem d_mo_insertProvision_8 : decode m_mo_insertProvision.2.2.1 8 = .ok (.iconst (-1), 1) := by decide +kernel
theorem d_mo_insertProvision_9 : decode m_mo_insertProvision.2.2.1 9 = .ok (.ireturn, 1) := by decide +kernel
theorem d_mo_insertProvision_10 : decode m_mo_insertProvision.2.2.1 10 = .ok (.iload_n 2, 1) := by decide +kernel
theorem d_mo_insertProvision_11 : decode m_mo_insertProvision.2.2.1 11 = .ok (.iconst 0, 1) := by decide +kernel
theorem d_mo_insertProvision_12 : decode m_mo_insertProvision.2.2.1 12 = .ok (.sipush 9999, 3) := by decide +kernel
theorem d_mo_insertProvision_15 : decode m_mo_insertProvision.2.2.1 15 = .ok (.invokestatic 189, 3) := by decide +kernel
theorem d_mo_insertProvision_18 : decode m_mo_insertProvision.2.2.1 18 = .ok (.ifCond .ne 6, 3) := by decide +kernel
theorem d_mo_insertProvision_21 : decode m_mo_insertProvision.2.2.1 21 = .ok (.bipush (-5), 2) := by decide +kernel
theorem d_mo_insertProvision_23 : decode m_mo_insertProvision.2.2.1 23 = .ok (.ireturn, 1) := by decide +kernel
theorem d_mo_insertProvision_24 : decode m_mo_insertProvision.2.2.1 24 = .ok (.aload_n 0, 1) := by decide +kernel
theorem d_mo_insertProvision_25 : decode m_mo_insertProvision.2.2.1 25 = .ok (.getfield 154, 3) := by decide +kernel
theorem d_mo_insertProvision_28 : decode m_mo_insertProvision.2.2.1 28 = .ok (.bipush 30, 2) := by decide +kernel
theorem d_mo_insertProvision_30 : decode m_mo_insertProvision.2.2.1 30 = .ok (.if_icmp .ne 6, 3) := by decide +kernel
theorem d_mo_insertProvision_33 : decode m_mo_insertProvision.2.2.1 33 = .ok (.bipush (-6), 2) := by decide +kernel
theorem d_mo_insertProvision_35 : decode m_mo_insertProvision.2.2.1 35 = .ok (.ireturn, 1) := by decide +kernel
theorem d_mo_insertProvision_36 : decode m_mo_insertProvision.2.2.1 36 = .ok (.aload_n 0, 1) := by decide +kernel
theorem d_mo_insertProvision_37 : decode m_mo_insertProvision.2.2.1 37 = .ok (.invokevirtual 196, 3) := by decide +kernel
theorem d_mo_insertProvision_40 : decode m_mo_insertProvision.2.2.1 40 = .ok (.aload_n 0, 1) := by decide +kernel
theorem d_mo_insertProvision_41 : decode m_mo_insertProvision.2.2.1 41 = .ok (.aload_n 0, 1) := by decide +kernel
theorem d_mo_insertProvision_42 : decode m_mo_insertProvision.2.2.1 42 = .ok (.getfield 9, 3) := by decide +kernel
theorem d_mo_insertProvision_45 : decode m_mo_insertProvision.2.2.1 45 = .ok (.iload_n 1, 1) := by decide +kernel
theorem d_mo_insertProvision_46 : decode m_mo_insertProvision.2.2.1 46 = .ok (.iaload, 1) := by decide +kernel
theorem d_mo_insertProvision_47 : decode m_mo_insertProvision.2.2.1 47 = .ok (.aload_n 0, 1) := by decide +kernel
theorem d_mo_insertProvision_48 : decode m_mo_insertProvision.2.2.1 48 = .ok (.iload_n 1, 1) := by decide +kernel
theorem d_mo_insertProvision_49 : decode m_mo_insertProvision.2.2.1 49 = .ok (.invokevirtual 206, 3) := by decide +kernel
theorem d_mo_insertProvision_52 : decode m_mo_insertProvision.2.2.1 52 = .ok (.iload_n 2, 1) := by decide +kernel
theorem d_mo_insertProvision_53 : decode m_mo_insertProvision.2.2.1 53 = .ok (.invokevirtual 202, 3) := by decide +kernel
theorem d_mo_insertProvision_56 : decode m_mo_insertProvision.2.2.1 56 = .ok (.ireturn, 1) := by decide +kernel
theorem d_mo_setText_0 : decode m_mo_setText.2.2.1 0 = .ok (.aload_n 0, 1) := by decide +kernel
theorem d_mo_setText_1 : decode m_mo_setText.2.2.1 1 = .ok (.iload_n 1, 1) := by decide +kernel
theorem d_mo_setText_2 : decode m_mo_setText.2.2.1 2 = .ok (.invokevirtual 193, 3) := by decide +kernel
theorem d_mo_setText_5 : decode m_mo_setText.2.2.1 5 = .ok (.ifCond .ne 5, 3) := by decide +kernel
theorem d_mo_setText_8 : decode m_mo_setText.2.2.1 8 = .ok (.iconst (-1), 1) := by decide +kernel
theorem d_mo_setText_9 : decode m_mo_setText.2.2.1 9 = .ok (.ireturn, 1) := by decide +kernel
theorem d_mo_setText_10 : decode m_mo_setText.2.2.1 10 = .ok (.iload_n 2, 1) := by decide +kernel
theorem d_mo_setText_11 : decode m_mo_setText.2.2.1 11 = .ok (.iconst 0, 1) := by decide +kernel
theorem d_mo_setText_12 : decode m_mo_setText.2.2.1 12 = .ok (.sipush 9999, 3) := by decide +kernel
theorem d_mo_setText_15 : decode m_mo_setText.2.2.1 15 = .ok (.invokestatic 189, 3) := by decide +kernel
theorem d_mo_setText_18 : decode m_mo_setText.2.2.1 18 = .ok (.ifCond .ne 6, 3) := by decide +kernel
theorem d_mo_setText_21 : decode m_mo_setText.2.2.1 21 = .ok (.bipush (-5), 2) := by decide +kernel
theorem d_mo_setText_23 : decode m_mo_setText.2.2.1 23 = .ok (.ireturn, 1) := by decide +kernel
theorem d_mo_setText_24 : decode m_mo_setText.2.2.1 24 = .ok (.aload_n 0, 1) := by decide +kernel
theorem d_mo_setText_25 : decode m_mo_setText.2.2.1 25 = .ok (.getfield 16, 3) := by decide +kernel
theorem d_mo_setText_28 : decode m_mo_setText.2.2.1 28 = .ok (.iload_n 1, 1) := by decide +kernel
theorem d_mo_setText_29 : decode m_mo_setText.2.2.1 29 = .ok (.iaload, 1) := by decide +kernel
theorem d_mo_setText_30 : decode m_mo_setText.2.2.1 30 = .ok (.istore_n 3, 1) := by decide +kernel
theorem d_mo_setText_31 : decode m_mo_setText.2.2.1 31 = .ok (.aload_n 0, 1) := by decide +kernel
theorem d_mo_setText_32 : decode m_mo_setText.2.2.1 32 = .ok (.getfield 16, 3) := by decide +kernel
theorem d_mo_setText_35 : decode m_mo_setText.2.2.1 35 = .ok (.iload_n 1, 1) := by decide +kernel
theorem d_mo_setText_36 : decode m_mo_setText.2.2.1 36 = .ok (.iload_n 2, 1) := by decide +kernel
theorem d_mo_setText_37 : decode m_mo_setText.2.2.1 37 = .ok (.iastore, 1) := by decide +kernel
theorem d_mo_setText_38 : decode m_mo_setText.2.2.1 38 = .ok (.iload_n 3, 1) := by decide +kernel
theorem d_mo_setText_39 : decode m_mo_setText.2.2.1 39 = .ok (.ireturn, 1) := by decide +kernel
theorem d_mo_addReference_0 : decode m_mo_addReference.2.2.1 0 = .ok (.aload_n 0, 1) := by decide +kernel
theorem d_mo_addReference_1 : decode m_mo_addReference.2.2.1 1 = .ok (.iload_n 1, 1) := by decide +kernel
theorem d_mo_addReference_2 : decode m_mo_addReference.2.2.1 2 = .ok (.invokevirtual 193, 3) := by decide +kernel
theorem d_mo_addReference_5 : decode m_mo_addReference.2.2.1 5 = .ok (.ifCond .eq 11, 3) := by decide +kernel
theorem d_mo_addReference_8 : decode m_mo_addReference.2.2.1 8 = .ok (.aload_n 0, 1) := by decide +kernel
theorem d_mo_addReference_9 : decode m_mo_addReference.2.2.1 9 = .ok (.iload_n 2, 1) := by decide +kernel
theorem d_mo_addReference_10 : decode m_mo_addReference.2.2.1 10 = .ok (.invokevirtual 193, 3) := by decide +kernel
theorem d_mo_addReference_13 : decode m_mo_addReference.2.2.1 13 = .ok (.ifCond .ne 5, 3) := by decide +kernel
theorem d_mo_addReference_16 : decode m_mo_addReference.2.2.1 16 = .ok (.iconst (-1), 1) := by decide +kernel
theorem d_mo_addReference_17 : decode m_mo_addReference.2.2.1 17 = .ok (.ireturn, 1) := by decide +kernel
theorem d_mo_addReference_18 : decode m_mo_addReference.2.2.1 18 = .ok (.aload_n 0, 1) := by decide +kernel
theorem d_mo_addReference_19 : decode m_mo_addReference.2.2.1 19 = .ok (.getfield 19, 3) := by decide +kernel
theorem d_mo_addReference_22 : decode m_mo_addReference.2.2.1 22 = .ok (.iload_n 1, 1) := by decide +kernel
theorem d_mo_addReference_23 : decode m_mo_addReference.2.2.1 23 = .ok (.iaload, 1) := by decide +kernel
theorem d_mo_addReference_24 : decode m_mo_addReference.2.2.1 24 = .ok (.iconst 4, 1) := by decide +kernel
theorem d_mo_addReference_25 : decode m_mo_addReference.2.2.1 25 = .ok (.if_icmp .ne 6, 3) := by decide +kernel
theorem d_mo_addReference_28 : decode m_mo_addReference.2.2.1 28 = .ok (.bipush (-6), 2) := by decide +kernel
theorem d_mo_addReference_30 : decode m_mo_addReference.2.2.1 30 = .ok (.ireturn, 1) := by decide +kernel
theorem d_mo_addReference_31 : decode m_mo_addReference.2.2.1 31 = .ok (.aload_n 0, 1) := by decide +kernel
theorem d_mo_addReference_32 : decode m_mo_addReference.2.2.1 32 = .ok (.getfield 22, 3) := by decide +kernel
theorem d_mo_addReference_35 : decode m_mo_addReference.2.2.1 35 = .ok (.iconst 4, 1) := by decide +kernel
theorem d_mo_addReference_36 : decode m_mo_addReference.2.2.1 36 = .ok (.iload_n 1, 1) := by decide +kernel
theorem d_mo_addReference_37 : decode m_mo_addReference.2.2.1 37 = .ok (.imul, 1) := by decide +kernel
theorem d_mo_addReference_38 : decode m_mo_addReference.2.2.1 38 = .ok (.aload_n 0, 1) := by decide +kernel
theorem d_mo_addReference_39 : decode m_mo_addReference.2.2.1 39 = .ok (.getfield 19, 3) := by decide +kernel
theorem d_mo_addReference_42 : decode m_mo_addReference.2.2.1 42 = .ok (.iload_n 1, 1) := by decide +kernel
theorem d_mo_addReference_43 : decode m_mo_addReference.2.2.1 43 = .ok (.iaload, 1) := by decide +kernel
theorem d_mo_addReference_44 : decode m_mo_addReference.2.2.1 44 = .ok (.iadd, 1) := by decide +kernel
theorem d_mo_addReference_45 : decode m_mo_addReference.2.2.1 45 = .ok (.iload_n 2, 1) := by decide +kernel
theorem d_mo_addReference_46 : decode m_mo_addReference.2.2.1 46 = .ok (.iastore, 1) := by decide +kernel
theorem d_mo_addReference_47 : decode m_mo_addReference.2.2.1 47 = .ok (.aload_n 0, 1) := by decide +kernel
theorem d_mo_addReference_48 : decode m_mo_addReference.2.2.1 48 = .ok (.getfield 19, 3) := by decide +kernel
theorem d_mo_addReference_51 : decode m_mo_addReference.2.2.1 51 = .ok (.iload_n 1, 1) := by decide +kernel
theorem d_mo_addReference_52 : decode m_mo_addReference.2.2.1 52 = .ok (.dup2, 1) := by decide +kernel
theorem d_mo_addReference_53 : decode m_mo_addReference.2.2.1 53 = .ok (.iaload, 1) := by decide +kernel
theorem d_mo_addReference_54 : decode m_mo_addReference.2.2.1 54 = .ok (.iconst 1, 1) := by decide +kernel
theorem d_mo_addReference_55 : decode m_mo_addReference.2.2.1 55 = .ok (.iadd, 1) := by decide +kernel
theorem d_mo_addReference_56 : decode m_mo_addReference.2.2.1 56 = .ok (.iastore, 1) := by decide +kernel
theorem d_mo_addReference_57 : decode m_mo_addReference.2.2.1 57 = .ok (.aload_n 0, 1) := by decide +kernel
theorem d_mo_addReference_58 : decode m_mo_addReference.2.2.1 58 = .ok (.getfield 19, 3) := by decide +kernel
theorem d_mo_addReference_61 : decode m_mo_addReference.2.2.1 61 = .ok (.iload_n 1, 1) := by decide +kernel
theorem d_mo_addReference_62 : decode m_mo_addReference.2.2.1 62 = .ok (.iaload, 1) := by decide +kernel
theorem d_mo_addReference_63 : decode m_mo_addReference.2.2.1 63 = .ok (.ireturn, 1) := by decide +kernel
theorem d_mo_clear_0 : decode m_mo_clear.2.2.1 0 = .ok (.aload_n 0, 1) := by decide +kernel
theorem d_mo_clear_1 : decode m_mo_clear.2.2.1 1 = .ok (.getfield 154, 3) := by decide +kernel
theorem d_mo_clear_4 : decode m_mo_clear.2.2.1 4 = .ok (.istore_n 1, 1) := by decide +kernel
theorem d_mo_clear_5 : decode m_mo_clear.2.2.1 5 = .ok (.aload_n 0, 1) := by decide +kernel
theorem d_mo_clear_6 : decode m_mo_clear.2.2.1 6 = .ok (.iconst 0, 1) := by decide +kernel
theorem d_mo_clear_7 : decode m_mo_clear.2.2.1 7 = .ok (.putfield 154, 3) := by decide +kernel
theorem d_mo_clear_10 : decode m_mo_clear.2.2.1 10 = .ok (.aload_n 0, 1) := by decide +kernel
theorem d_mo_clear_11 : decode m_mo_clear.2.2.1 11 = .ok (.iconst 0, 1) := by decide +kernel
theorem d_mo_clear_12 : decode m_mo_clear.2.2.1 12 = .ok (.putfield 209, 3) := by decide +kernel
theorem d_mo_clear_15 : decode m_mo_clear.2.2.1 15 = .ok (.aload_n 0, 1) := by decide +kernel
theorem d_mo_clear_16 : decode m_mo_clear.2.2.1 16 = .ok (.invokevirtual 212, 3) := by decide +kernel
theorem d_mo_clear_19 : decode m_mo_clear.2.2.1 19 = .ok (.iload_n 1, 1) := by decide +kernel
theorem d_mo_clear_20 : decode m_mo_clear.2.2.1 20 = .ok (.ireturn, 1) := by decide +kernel
theorem d_mo_originalCount_0 : decode m_mo_originalCount.2.2.1 0 = .ok (.aload_n 0, 1) := by decide +kernel
theorem d_mo_originalCount_1 : decode m_mo_originalCount.2.2.1 1 = .ok (.getfield 154, 3) := by decide +kernel
theorem d_mo_originalCount_4 : decode m_mo_originalCount.2.2.1 4 = .ok (.ireturn, 1) := by decide +kernel
theorem d_mo_appendCharacter_0 : decode m_mo_appendCharacter.2.2.1 0 = .ok (.iload_n 1, 1) := by decide +kernel
theorem d_mo_appendCharacter_1 : decode m_mo_appendCharacter.2.2.1 1 = .ok (.bipush 32, 2) := by decide +kernel
theorem d_mo_appendCharacter_3 : decode m_mo_appendCharacter.2.2.1 3 = .ok (.bipush 126, 2) := by decide +kernel
theorem d_mo_appendCharacter_5 : decode m_mo_appendCharacter.2.2.1 5 = .ok (.invokestatic 189, 3) := by decide +kernel
theorem d_mo_appendCharacter_8 : decode m_mo_appendCharacter.2.2.1 8 = .ok (.ifCond .ne 6, 3) := by decide +kernel
theorem d_mo_appendCharacter_11 : decode m_mo_appendCharacter.2.2.1 11 = .ok (.bipush (-5), 2) := by decide +kernel
theorem d_mo_appendCharacter_13 : decode m_mo_appendCharacter.2.2.1 13 = .ok (.ireturn, 1) := by decide +kernel
theorem d_mo_appendCharacter_14 : decode m_mo_appendCharacter.2.2.1 14 = .ok (.aload_n 0, 1) := by decide +kernel
theorem d_mo_appendCharacter_15 : decode m_mo_appendCharacter.2.2.1 15 = .ok (.getfield 215, 3) := by decide +kernel
theorem d_mo_appendCharacter_18 : decode m_mo_appendCharacter.2.2.1 18 = .ok (.bipush 120, 2) := by decide +kernel
theorem d_mo_appendCharacter_20 : decode m_mo_appendCharacter.2.2.1 20 = .ok (.if_icmp .ne 6, 3) := by decide +kernel
theorem d_mo_appendCharacter_23 : decode m_mo_appendCharacter.2.2.1 23 = .ok (.bipush (-6), 2) := by decide +kernel
theorem d_mo_appendCharacter_25 : decode m_mo_appendCharacter.2.2.1 25 = .ok (.ireturn, 1) := by decide +kernel
theorem d_mo_appendCharacter_26 : decode m_mo_appendCharacter.2.2.1 26 = .ok (.aload_n 0, 1) := by decide +kernel
theorem d_mo_appendCharacter_27 : decode m_mo_appendCharacter.2.2.1 27 = .ok (.getfield 77, 3) := by decide +kernel
theorem d_mo_appendCharacter_30 : decode m_mo_appendCharacter.2.2.1 30 = .ok (.aload_n 0, 1) := by decide +kernel
theorem d_mo_appendCharacter_31 : decode m_mo_appendCharacter.2.2.1 31 = .ok (.getfield 215, 3) := by decide +kernel
theorem d_mo_appendCharacter_34 : decode m_mo_appendCharacter.2.2.1 34 = .ok (.iload_n 1, 1) := by decide +kernel
theorem d_mo_appendCharacter_35 : decode m_mo_appendCharacter.2.2.1 35 = .ok (.iastore, 1) := by decide +kernel
theorem d_mo_appendCharacter_36 : decode m_mo_appendCharacter.2.2.1 36 = .ok (.aload_n 0, 1) := by decide +kernel
theorem d_mo_appendCharacter_37 : decode m_mo_appendCharacter.2.2.1 37 = .ok (.dup, 1) := by decide +kernel
theorem d_mo_appendCharacter_38 : decode m_mo_appendCharacter.2.2.1 38 = .ok (.getfield 215, 3) := by decide +kernel
theorem d_mo_appendCharacter_41 : decode m_mo_appendCharacter.2.2.1 41 = .ok (.iconst 1, 1) := by decide +kernel
theorem d_mo_appendCharacter_42 : decode m_mo_appendCharacter.2.2.1 42 = .ok (.iadd, 1) := by decide +kernel
theorem d_mo_appendCharacter_43 : decode m_mo_appendCharacter.2.2.1 43 = .ok (.putfield 215, 3) := by decide +kernel
theorem d_mo_appendCharacter_46 : decode m_mo_appendCharacter.2.2.1 46 = .ok (.aload_n 0, 1) := by decide +kernel
theorem d_mo_appendCharacter_47 : decode m_mo_appendCharacter.2.2.1 47 = .ok (.getfield 215, 3) := by decide +kernel
theorem d_mo_appendCharacter_50 : decode m_mo_appendCharacter.2.2.1 50 = .ok (.ireturn, 1) := by decide +kernel
theorem d_mo_clearInput_0 : decode m_mo_clearInput.2.2.1 0 = .ok (.aload_n 0, 1) := by decide +kernel
theorem d_mo_clearInput_1 : decode m_mo_clearInput.2.2.1 1 = .ok (.getfield 215, 3) := by decide +kernel
theorem d_mo_clearInput_4 : decode m_mo_clearInput.2.2.1 4 = .ok (.istore_n 1, 1) := by decide +kernel
theorem d_mo_clearInput_5 : decode m_mo_clearInput.2.2.1 5 = .ok (.aload_n 0, 1) := by decide +kernel
theorem d_mo_clearInput_6 : decode m_mo_clearInput.2.2.1 6 = .ok (.iconst 0, 1) := by decide +kernel
theorem d_mo_clearInput_7 : decode m_mo_clearInput.2.2.1 7 = .ok (.putfield 215, 3) := by decide +kernel
theorem d_mo_clearInput_10 : decode m_mo_clearInput.2.2.1 10 = .ok (.iload_n 1, 1) := by decide +kernel
theorem d_mo_clearInput_11 : decode m_mo_clearInput.2.2.1 11 = .ok (.ireturn, 1) := by decide +kernel
theorem d_mo_isNext_0 : decode m_mo_isNext.2.2.1 0 = .ok (.aload_n 0, 1) := by decide +kernel
theorem d_mo_isNext_1 : decode m_mo_isNext.2.2.1 1 = .ok (.getfield 218, 3) := by decide +kernel
theorem d_mo_isNext_4 : decode m_mo_isNext.2.2.1 4 = .ok (.aload_n 0, 1) := by decide +kernel
theorem d_mo_isNext_5 : decode m_mo_isNext.2.2.1 5 = .ok (.getfield 215, 3) := by decide +kernel
theorem d_mo_isNext_8 : decode m_mo_isNext.2.2.1 8 = .ok (.if_icmp .ge 24, 3) := by decide +kernel
theorem d_mo_isNext_11 : decode m_mo_isNext.2.2.1 11 = .ok (.aload_n 0, 1) := by decide +kernel
theorem d_mo_isNext_12 : decode m_mo_isNext.2.2.1 12 = .ok (.getfield 77, 3) := by decide +kernel
theorem d_mo_isNext_15 : decode m_mo_isNext.2.2.1 15 = .ok (.aload_n 0, 1) := by decide +kernel
theorem d_mo_isNext_16 : decode m_mo_isNext.2.2.1 16 = .ok (.getfield 218, 3) := by decide +kernel
theorem d_mo_isNext_19 : decode m_mo_isNext.2.2.1 19 = .ok (.iaload, 1) := by decide +kernel
theorem d_mo_isNext_20 : decode m_mo_isNext.2.2.1 20 = .ok (.iload_n 1, 1) := by decide +kernel
theorem d_mo_isNext_21 : decode m_mo_isNext.2.2.1 21 = .ok (.iload_n 2, 1) := by decide +kernel
theorem d_mo_isNext_22 : decode m_mo_isNext.2.2.1 22 = .ok (.invokestatic 189, 3) := by decide +kernel
theorem d_mo_isNext_25 : decode m_mo_isNext.2.2.1 25 = .ok (.ifCond .eq 7, 3) := by decide +kernel
theorem d_mo_isNext_28 : decode m_mo_isNext.2.2.1 28 = .ok (.iconst 1, 1) := by decide +kernel
theorem d_mo_isNext_29 : decode m_mo_isNext.2.2.1 29 = .ok (.goto 4, 3) := by decide +kernel
theorem d_mo_isNext_32 : decode m_mo_isNext.2.2.1 32 = .ok (.iconst 0, 1) := by decide +kernel
theorem d_mo_isNext_33 : decode m_mo_isNext.2.2.1 33 = .ok (.ireturn, 1) := by decide +kernel
theorem d_mo_accept_0 : decode m_mo_accept.2.2.1 0 = .ok (.aload_n 0, 1) := by decide +kernel
theorem d_mo_accept_1 : decode m_mo_accept.2.2.1 1 = .ok (.getfield 221, 3) := by decide +kernel
theorem d_mo_accept_4 : decode m_mo_accept.2.2.1 4 = .ok (.ifCond .ne 12, 3) := by decide +kernel
theorem d_mo_accept_7 : decode m_mo_accept.2.2.1 7 = .ok (.aload_n 0, 1) := by decide +kernel
theorem d_mo_accept_8 : decode m_mo_accept.2.2.1 8 = .ok (.iload_n 1, 1) := by decide +kernel
theorem d_mo_accept_9 : decode m_mo_accept.2.2.1 9 = .ok (.iload_n 1, 1) := by decide +kernel
theorem d_mo_accept_10 : decode m_mo_accept.2.2.1 10 = .ok (.invokevirtual 225, 3) := by decide +kernel
theorem d_mo_accept_13 : decode m_mo_accept.2.2.1 13 = .ok (.ifCond .ne 5, 3) := by decide +kernel
theorem d_mo_accept_16 : decode m_mo_accept.2.2.1 16 = .ok (.iconst 0, 1) := by decide +kernel
theorem d_mo_accept_17 : decode m_mo_accept.2.2.1 17 = .ok (.ireturn, 1) := by decide +kernel
theorem d_mo_accept_18 : decode m_mo_accept.2.2.1 18 = .ok (.aload_n 0, 1) := by decide +kernel
theorem d_mo_accept_19 : decode m_mo_accept.2.2.1 19 = .ok (.dup, 1) := by decide +kernel
theorem d_mo_accept_20 : decode m_mo_accept.2.2.1 20 = .ok (.getfield 218, 3) := by decide +kernel
theorem d_mo_accept_23 : decode m_mo_accept.2.2.1 23 = .ok (.iconst 1, 1) := by decide +kernel
theorem d_mo_accept_24 : decode m_mo_accept.2.2.1 24 = .ok (.iadd, 1) := by decide +kernel
theorem d_mo_accept_25 : decode m_mo_accept.2.2.1 25 = .ok (.putfield 218, 3) := by decide +kernel
theorem d_mo_accept_28 : decode m_mo_accept.2.2.1 28 = .ok (.iconst 1, 1) := by decide +kernel
theorem d_mo_accept_29 : decode m_mo_accept.2.2.1 29 = .ok (.ireturn, 1) := by decide +kernel
theorem d_mo_expect_0 : decode m_mo_expect.2.2.1 0 = .ok (.aload_n 0, 1) := by decide +kernel
theorem d_mo_expect_1 : decode m_mo_expect.2.2.1 1 = .ok (.aload_n 0, 1) := by decide +kernel
theorem d_mo_expect_2 : decode m_mo_expect.2.2.1 2 = .ok (.iload_n 1, 1) := by decide +kernel
theorem d_mo_expect_3 : decode m_mo_expect.2.2.1 3 = .ok (.invokevirtual 229, 3) := by decide +kernel
theorem d_mo_expect_6 : decode m_mo_expect.2.2.1 6 = .ok (.ifCond .ne 7, 3) := by decide +kernel
theorem d_mo_expect_9 : decode m_mo_expect.2.2.1 9 = .ok (.iconst 1, 1) := by decide +kernel
theorem d_mo_expect_10 : decode m_mo_expect.2.2.1 10 = .ok (.goto 4, 3) := by decide +kernel
theorem d_mo_expect_13 : decode m_mo_expect.2.2.1 13 = .ok (.iconst 0, 1) := by decide +kernel
theorem d_mo_expect_14 : decode m_mo_expect.2.2.1 14 = .ok (.putfield 221, 3) := by decide +kernel
theorem d_mo_expect_17 : decode m_mo_expect.2.2.1 17 = .ok (.return_, 1) := by decide +kernel
theorem d_mo_parseLabel_0 : decode m_mo_parseLabel.2.2.1 0 = .ok (.aload_n 0, 1) := by decide +kernel
theorem d_mo_parseLabel_1 : decode m_mo_parseLabel.2.2.1 1 = .ok (.getfield 221, 3) := by decide +kernel
theorem d_mo_parseLabel_4 : decode m_mo_parseLabel.2.2.1 4 = .ok (.ifCond .ne 14, 3) := by decide +kernel
theorem d_mo_parseLabel_7 : decode m_mo_parseLabel.2.2.1 7 = .ok (.aload_n 0, 1) := by decide +kernel
theorem d_mo_parseLabel_8 : decode m_mo_parseLabel.2.2.1 8 = .ok (.bipush 49, 2) := by decide +kernel
theorem d_mo_parseLabel_10 : decode m_mo_parseLabel.2.2.1 10 = .ok (.bipush 57, 2) := by decide +kernel
theorem d_mo_parseLabel_12 : decode m_mo_parseLabel.2.2.1 12 = .ok (.invokevirtual 225, 3) := by decide +kernel
theorem d_mo_parseLabel_15 : decode m_mo_parseLabel.2.2.1 15 = .ok (.ifCond .ne 10, 3) := by decide +kernel
theorem d_mo_parseLabel_18 : decode m_mo_parseLabel.2.2.1 18 = .ok (.aload_n 0, 1) := by decide +kernel
theorem d_mo_parseLabel_19 : decode m_mo_parseLabel.2.2.1 19 = .ok (.iconst 1, 1) := by decide +kernel
theorem d_mo_parseLabel_20 : decode m_mo_parseLabel.2.2.1 20 = .ok (.putfield 221, 3) := by decide +kernel
theorem d_mo_parseLabel_23 : decode m_mo_parseLabel.2.2.1 23 = .ok (.iconst 0, 1) := by decide +kernel
theorem d_mo_parseLabel_24 : decode m_mo_parseLabel.2.2.1 24 = .ok (.ireturn, 1) := by decide +kernel
theorem d_mo_parseLabel_25 : decode m_mo_parseLabel.2.2.1 25 = .ok (.aload_n 0, 1) := by decide +kernel
theorem d_mo_parseLabel_26 : decode m_mo_parseLabel.2.2.1 26 = .ok (.getfield 77, 3) := by decide +kernel
theorem d_mo_parseLabel_29 : decode m_mo_parseLabel.2.2.1 29 = .ok (.aload_n 0, 1) := by decide +kernel
theorem d_mo_parseLabel_30 : decode m_mo_parseLabel.2.2.1 30 = .ok (.getfield 218, 3) := by decide +kernel
theorem d_mo_parseLabel_33 : decode m_mo_parseLabel.2.2.1 33 = .ok (.iaload, 1) := by decide +kernel
theorem d_mo_parseLabel_34 : decode m_mo_parseLabel.2.2.1 34 = .ok (.bipush 48, 2) := by decide +kernel
theorem d_mo_parseLabel_36 : decode m_mo_parseLabel.2.2.1 36 = .ok (.isub, 1) := by decide +kernel
theorem d_mo_parseLabel_37 : decode m_mo_parseLabel.2.2.1 37 = .ok (.istore_n 1, 1) := by decide +kernel
theorem d_mo_parseLabel_38 : decode m_mo_parseLabel.2.2.1 38 = .ok (.aload_n 0, 1) := by decide +kernel
theorem d_mo_parseLabel_39 : decode m_mo_parseLabel.2.2.1 39 = .ok (.dup, 1) := by decide +kernel
theorem d_mo_parseLabel_40 : decode m_mo_parseLabel.2.2.1 40 = .ok (.getfield 218, 3) := by decide +kernel
theorem d_mo_parseLabel_43 : decode m_mo_parseLabel.2.2.1 43 = .ok (.iconst 1, 1) := by decide +kernel
theorem d_mo_parseLabel_44 : decode m_mo_parseLabel.2.2.1 44 = .ok (.iadd, 1) := by decide +kernel
theorem d_mo_parseLabel_45 : decode m_mo_parseLabel.2.2.1 45 = .ok (.putfield 218, 3) := by decide +kernel
theorem d_mo_parseLabel_48 : decode m_mo_parseLabel.2.2.1 48 = .ok (.aload_n 0, 1) := by decide +kernel
theorem d_mo_parseLabel_49 : decode m_mo_parseLabel.2.2.1 49 = .ok (.bipush 48, 2) := by decide +kernel
theorem d_mo_parseLabel_51 : decode m_mo_parseLabel.2.2.1 51 = .ok (.bipush 57, 2) := by decide +kernel
theorem d_mo_parseLabel_53 : decode m_mo_parseLabel.2.2.1 53 = .ok (.invokevirtual 225, 3) := by decide +kernel
theorem d_mo_parseLabel_56 : decode m_mo_parseLabel.2.2.1 56 = .ok (.ifCond .eq 31, 3) := by decide +kernel
theorem d_mo_parseLabel_59 : decode m_mo_parseLabel.2.2.1 59 = .ok (.bipush 10, 2) := by decide +kernel
theorem d_mo_parseLabel_61 : decode m_mo_parseLabel.2.2.1 61 = .ok (.iload_n 1, 1) := by decide +kernel
theorem d_mo_parseLabel_62 : decode m_mo_parseLabel.2.2.1 62 = .ok (.imul, 1) := by decide +kernel
theorem d_mo_parseLabel_63 : decode m_mo_parseLabel.2.2.1 63 = .ok (.aload_n 0, 1) := by decide +kernel
theorem d_mo_parseLabel_64 : decode m_mo_parseLabel.2.2.1 64 = .ok (.getfield 77, 3) := by decide +kernel
theorem d_mo_parseLabel_67 : decode m_mo_parseLabel.2.2.1 67 = .ok (.aload_n 0, 1) := by decide +kernel
theorem d_mo_parseLabel_68 : decode m_mo_parseLabel.2.2.1 68 = .ok (.getfield 218, 3) := by decide +kernel
theorem d_mo_parseLabel_71 : decode m_mo_parseLabel.2.2.1 71 = .ok (.iaload, 1) := by decide +kernel
theorem d_mo_parseLabel_72 : decode m_mo_parseLabel.2.2.1 72 = .ok (.iadd, 1) := by decide +kernel
theorem d_mo_parseLabel_73 : decode m_mo_parseLabel.2.2.1 73 = .ok (.bipush 48, 2) := by decide +kernel
theorem d_mo_parseLabel_75 : decode m_mo_parseLabel.2.2.1 75 = .ok (.isub, 1) := by decide +kernel
theorem d_mo_parseLabel_76 : decode m_mo_parseLabel.2.2.1 76 = .ok (.istore_n 1, 1) := by decide +kernel
theorem d_mo_parseLabel_77 : decode m_mo_parseLabel.2.2.1 77 = .ok (.aload_n 0, 1) := by decide +kernel
theorem d_mo_parseLabel_78 : decode m_mo_parseLabel.2.2.1 78 = .ok (.dup, 1) := by decide +kernel
theorem d_mo_parseLabel_79 : decode m_mo_parseLabel.2.2.1 79 = .ok (.getfield 218, 3) := by decide +kernel
theorem d_mo_parseLabel_82 : decode m_mo_parseLabel.2.2.1 82 = .ok (.iconst 1, 1) := by decide +kernel
theorem d_mo_parseLabel_83 : decode m_mo_parseLabel.2.2.1 83 = .ok (.iadd, 1) := by decide +kernel
theorem d_mo_parseLabel_84 : decode m_mo_parseLabel.2.2.1 84 = .ok (.putfield 218, 3) := by decide +kernel
theorem d_mo_parseLabel_87 : decode m_mo_parseLabel.2.2.1 87 = .ok (.iconst 0, 1) := by decide +kernel
theorem d_mo_parseLabel_88 : decode m_mo_parseLabel.2.2.1 88 = .ok (.istore_n 2, 1) := by decide +kernel
theorem d_mo_parseLabel_89 : decode m_mo_parseLabel.2.2.1 89 = .ok (.sipush 729, 3) := by decide +kernel
theorem d_mo_parseLabel_92 : decode m_mo_parseLabel.2.2.1 92 = .ok (.istore_n 3, 1) := by decide +kernel
theorem d_mo_parseLabel_93 : decode m_mo_parseLabel.2.2.1 93 = .ok (.iload_n 3, 1) := by decide +kernel
theorem d_mo_parseLabel_94 : decode m_mo_parseLabel.2.2.1 94 = .ok (.ifCond .le 51, 3) := by decide +kernel
theorem d_mo_parseLabel_97 : decode m_mo_parseLabel.2.2.1 97 = .ok (.aload_n 0, 1) := by decide +kernel
theorem d_mo_parseLabel_98 : decode m_mo_parseLabel.2.2.1 98 = .ok (.bipush 65, 2) := by decide +kernel
theorem d_mo_parseLabel_100 : decode m_mo_parseLabel.2.2.1 100 = .ok (.bipush 90, 2) := by decide +kernel
theorem d_mo_parseLabel_102 : decode m_mo_parseLabel.2.2.1 102 = .ok (.invokevirtual 225, 3) := by decide +kernel
theorem d_mo_parseLabel_105 : decode m_mo_parseLabel.2.2.1 105 = .ok (.ifCond .eq 40, 3) := by decide +kernel
theorem d_mo_parseLabel_108 : decode m_mo_parseLabel.2.2.1 108 = .ok (.iload_n 2, 1) := by decide +kernel
theorem d_mo_parseLabel_109 : decode m_mo_parseLabel.2.2.1 109 = .ok (.iload_n 3, 1) := by decide +kernel
theorem d_mo_parseLabel_110 : decode m_mo_parseLabel.2.2.1 110 = .ok (.aload_n 0, 1) := by decide +kernel
theorem d_mo_parseLabel_111 : decode m_mo_parseLabel.2.2.1 111 = .ok (.getfield 77, 3) := by decide +kernel
theorem d_mo_parseLabel_114 : decode m_mo_parseLabel.2.2.1 114 = .ok (.aload_n 0, 1) := by decide +kernel
theorem d_mo_parseLabel_115 : decode m_mo_parseLabel.2.2.1 115 = .ok (.getfield 218, 3) := by decide +kernel
theorem d_mo_parseLabel_118 : decode m_mo_parseLabel.2.2.1 118 = .ok (.iaload, 1) := by decide +kernel
theorem d_mo_parseLabel_119 : decode m_mo_parseLabel.2.2.1 119 = .ok (.bipush 65, 2) := by decide +kernel
theorem d_mo_parseLabel_121 : decode m_mo_parseLabel.2.2.1 121 = .ok (.isub, 1) := by decide +kernel
theorem d_mo_parseLabel_122 : decode m_mo_parseLabel.2.2.1 122 = .ok (.iconst 1, 1) := by decide +kernel
theorem d_mo_parseLabel_123 : decode m_mo_parseLabel.2.2.1 123 = .ok (.iadd, 1) := by decide +kernel
theorem d_mo_parseLabel_124 : decode m_mo_parseLabel.2.2.1 124 = .ok (.imul, 1) := by decide +kernel
theorem d_mo_parseLabel_125 : decode m_mo_parseLabel.2.2.1 125 = .ok (.iadd, 1) := by decide +kernel
theorem d_mo_parseLabel_126 : decode m_mo_parseLabel.2.2.1 126 = .ok (.istore_n 2, 1) := by decide +kernel
theorem d_mo_parseLabel_127 : decode m_mo_parseLabel.2.2.1 127 = .ok (.aload_n 0, 1) := by decide +kernel
theorem d_mo_parseLabel_128 : decode m_mo_parseLabel.2.2.1 128 = .ok (.dup, 1) := by decide +kernel
theorem d_mo_parseLabel_129 : decode m_mo_parseLabel.2.2.1 129 = .ok (.getfield 218, 3) := by decide +kernel
theorem d_mo_parseLabel_132 : decode m_mo_parseLabel.2.2.1 132 = .ok (.iconst 1, 1) := by decide +kernel
theorem d_mo_parseLabel_133 : decode m_mo_parseLabel.2.2.1 133 = .ok (.iadd, 1) := by decide +kernel
theorem d_mo_parseLabel_134 : decode m_mo_parseLabel.2.2.1 134 = .ok (.putfield 218, 3) := by decide +kernel
theorem d_mo_parseLabel_137 : decode m_mo_parseLabel.2.2.1 137 = .ok (.iload_n 3, 1) := by decide +kernel
theorem d_mo_parseLabel_138 : decode m_mo_parseLabel.2.2.1 138 = .ok (.bipush 27, 2) := by decide +kernel
theorem d_mo_parseLabel_140 : decode m_mo_parseLabel.2.2.1 140 = .ok (.idiv, 1) := by decide +kernel
theorem d_mo_parseLabel_141 : decode m_mo_parseLabel.2.2.1 141 = .ok (.istore_n 3, 1) := by decide +kernel
theorem d_mo_parseLabel_142 : decode m_mo_parseLabel.2.2.1 142 = .ok (.goto (-49), 3) := by decide +kernel
theorem d_mo_parseLabel_145 : decode m_mo_parseLabel.2.2.1 145 = .ok (.sipush 19683, 3) := by decide +kernel
theorem d_mo_parseLabel_148 : decode m_mo_parseLabel.2.2.1 148 = .ok (.iload_n 1, 1) := by decide +kernel
theorem d_mo_parseLabel_149 : decode m_mo_parseLabel.2.2.1 149 = .ok (.imul, 1) := by decide +kernel
theorem d_mo_parseLabel_150 : decode m_mo_parseLabel.2.2.1 150 = .ok (.iload_n 2, 1) := by decide +kernel
theorem d_mo_parseLabel_151 : decode m_mo_parseLabel.2.2.1 151 = .ok (.iadd, 1) := by decide +kernel
theorem d_mo_parseLabel_152 : decode m_mo_parseLabel.2.2.1 152 = .ok (.ireturn, 1) := by decide +kernel
theorem d_mo_parsePath_0 : decode m_mo_parsePath.2.2.1 0 = .ok (.aload_n 1, 1) := by decide +kernel
theorem d_mo_parsePath_1 : decode m_mo_parsePath.2.2.1 1 = .ok (.iload_n 2, 1) := by decide +kernel
theorem d_mo_parsePath_2 : decode m_mo_parsePath.2.2.1 2 = .ok (.aload_n 0, 1) := by decide +kernel
theorem d_mo_parsePath_3 : decode m_mo_parsePath.2.2.1 3 = .ok (.invokevirtual 232, 3) := by decide +kernel
theorem d_mo_parsePath_6 : decode m_mo_parsePath.2.2.1 6 = .ok (.iastore, 1) := by decide +kernel
theorem d_mo_parsePath_7 : decode m_mo_parsePath.2.2.1 7 = .ok (.aload_n 1, 1) := by decide +kernel
theorem d_mo_parsePath_8 : decode m_mo_parsePath.2.2.1 8 = .ok (.iload_n 2, 1) := by decide +kernel
theorem d_mo_parsePath_9 : decode m_mo_parsePath.2.2.1 9 = .ok (.iconst 1, 1) := by decide +kernel
theorem d_mo_parsePath_10 : decode m_mo_parsePath.2.2.1 10 = .ok (.iadd, 1) := by decide +kernel
theorem d_mo_parsePath_11 : decode m_mo_parsePath.2.2.1 11 = .ok (.iconst 0, 1) := by decide +kernel
theorem d_mo_parsePath_12 : decode m_mo_parsePath.2.2.1 12 = .ok (.iastore, 1) := by decide +kernel
theorem d_mo_parsePath_13 : decode m_mo_parsePath.2.2.1 13 = .ok (.aload_n 1, 1) := by decide +kernel
theorem d_mo_parsePath_14 : decode m_mo_parsePath.2.2.1 14 = .ok (.iload_n 2, 1) := by decide +kernel
theorem d_mo_parsePath_15 : decode m_mo_parsePath.2.2.1 15 = .ok (.iconst 2, 1) := by decide +kernel
theorem d_mo_parsePath_16 : decode m_mo_parsePath.2.2.1 16 = .ok (.iadd, 1) := by decide +kernel
theorem d_mo_parsePath_17 : decode m_mo_parsePath.2.2.1 17 = .ok (.iconst 0, 1) := by decide +kernel
theorem d_mo_parsePath_18 : decode m_mo_parsePath.2.2.1 18 = .ok (.iastore, 1) := by decide +kernel
theorem d_mo_parsePath_19 : decode m_mo_parsePath.2.2.1 19 = .ok (.iconst 1, 1) := by decide +kernel
theorem d_mo_parsePath_20 : decode m_mo_parsePath.2.2.1 20 = .ok (.istore_n 3, 1) := by decide +kernel
theorem d_mo_parsePath_21 : decode m_mo_parsePath.2.2.1 21 = .ok (.iload_n 3, 1) := by decide +kernel
theorem d_mo_parsePath_22 : decode m_mo_parsePath.2.2.1 22 = .ok (.iconst 3, 1) := by decide +kernel
theorem d_mo_parsePath_23 : decode m_mo_parsePath.2.2.1 23 = .ok (.if_icmp .ge 40, 3) := by decide +kernel
theorem d_mo_parsePath_26 : decode m_mo_parsePath.2.2.1 26 = .ok (.aload_n 0, 1) := by decide +kernel
theorem d_mo_parsePath_27 : decode m_mo_parsePath.2.2.1 27 = .ok (.bipush 40, 2) := by decide +kernel
theorem d_mo_parsePath_29 : decode m_mo_parsePath.2.2.1 29 = .ok (.invokevirtual 229, 3) := by decide +kernel
theorem d_mo_parsePath_32 : decode m_mo_parsePath.2.2.1 32 = .ok (.ifCond .eq 31, 3) := by decide +kernel
theorem d_mo_parsePath_35 : decode m_mo_parsePath.2.2.1 35 = .ok (.aload_n 1, 1) := by decide +kernel
theorem d_mo_parsePath_36 : decode m_mo_parsePath.2.2.1 36 = .ok (.iload_n 2, 1) := by decide +kernel
theorem d_mo_parsePath_37 : decode m_mo_parsePath.2.2.1 37 = .ok (.iload_n 3, 1) := by decide +kernel
theorem d_mo_parsePath_38 : decode m_mo_parsePath.2.2.1 38 = .ok (.iadd, 1) := by decide +kernel
theorem d_mo_parsePath_39 : decode m_mo_parsePath.2.2.1 39 = .ok (.aload_n 0, 1) := by decide +kernel
theorem d_mo_parsePath_40 : decode m_mo_parsePath.2.2.1 40 = .ok (.invokevirtual 232, 3) := by decide +kernel
theorem d_mo_parsePath_43 : decode m_mo_parsePath.2.2.1 43 = .ok (.iastore, 1) := by decide +kernel
theorem d_mo_parsePath_44 : decode m_mo_parsePath.2.2.1 44 = .ok (.aload_n 0, 1) := by decide +kernel
theorem d_mo_parsePath_45 : decode m_mo_parsePath.2.2.1 45 = .ok (.getfield 221, 3) := by decide +kernel
theorem d_mo_parsePath_48 : decode m_mo_parsePath.2.2.1 48 = .ok (.ifCond .ne 9, 3) := by decide +kernel
theorem d_mo_parsePath_51 : decode m_mo_parsePath.2.2.1 51 = .ok (.aload_n 0, 1) := by decide +kernel
theorem d_mo_parsePath_52 : decode m_mo_parsePath.2.2.1 52 = .ok (.bipush 41, 2) := by decide +kernel
theorem d_mo_parsePath_54 : decode m_mo_parsePath.2.2.1 54 = .ok (.invokevirtual 236, 3) := by decide +kernel
theorem d_mo_parsePath_57 : decode m_mo_parsePath.2.2.1 57 = .ok (.iinc 3 1, 3) := by decide +kernel
theorem d_mo_parsePath_60 : decode m_mo_parsePath.2.2.1 60 = .ok (.goto (-39), 3) := by decide +kernel
theorem d_mo_parsePath_63 : decode m_mo_parsePath.2.2.1 63 = .ok (.return_, 1) := by decide +kernel
theorem d_mo_keyword_0 : decode m_mo_keyword.2.2.1 0 = .ok (.iload_n 0, 1) := by decide +kernel
theorem d_mo_keyword_1 : decode m_mo_keyword.2.2.1 1 = .ok (.tableswitch 50 0 4 #[35, 38, 41, 44, 47], 35) := by decide +kernel
theorem d_mo_keyword_36 : decode m_mo_keyword.2.2.1 36 = .ok (.ldc 239, 2) := by decide +kernel
theorem d_mo_keyword_38 : decode m_mo_keyword.2.2.1 38 = .ok (.areturn, 1) := by decide +kernel
theorem d_mo_keyword_39 : decode m_mo_keyword.2.2.1 39 = .ok (.ldc 241, 2) := by decide +kernel
theorem d_mo_keyword_41 : decode m_mo_keyword.2.2.1 41 = .ok (.areturn, 1) := by decide +kernel
theorem d_mo_keyword_42 : decode m_mo_keyword.2.2.1 42 = .ok (.ldc 243, 2) := by decide +kernel
theorem d_mo_keyword_44 : decode m_mo_keyword.2.2.1 44 = .ok (.areturn, 1) := by decide +kernel
theorem d_mo_keyword_45 : decode m_mo_keyword.2.2.1 45 = .ok (.ldc 245, 2) := by decide +kernel
theorem d_mo_keyword_47 : decode m_mo_keyword.2.2.1 47 = .ok (.areturn, 1) := by decide +kernel
theorem d_mo_keyword_48 : decode m_mo_keyword.2.2.1 48 = .ok (.ldc 247, 2) := by decide +kernel
theorem d_mo_keyword_50 : decode m_mo_keyword.2.2.1 50 = .ok (.areturn, 1) := by decide +kernel
theorem d_mo_keyword_51 : decode m_mo_keyword.2.2.1 51 = .ok (.ldc 249, 2) := by decide +kernel
theorem d_mo_keyword_53 : decode m_mo_keyword.2.2.1 53 = .ok (.areturn, 1) := by decide +kernel
theorem d_mo_parseKeyword_0 : decode m_mo_parseKeyword.2.2.1 0 = .ok (.bipush 63, 2) := by decide +kernel
theorem d_mo_parseKeyword_2 : decode m_mo_parseKeyword.2.2.1 2 = .ok (.istore_n 1, 1) := by decide +kernel
theorem d_mo_parseKeyword_3 : decode m_mo_parseKeyword.2.2.1 3 = .ok (.aload_n 0, 1) := by decide +kernel
theorem d_mo_parseKeyword_4 : decode m_mo_parseKeyword.2.2.1 4 = .ok (.getfield 218, 3) := by decide +kernel
theorem d_mo_parseKeyword_7 : decode m_mo_parseKeyword.2.2.1 7 = .ok (.istore_n 2, 1) := by decide +kernel
theorem d_mo_parseKeyword_8 : decode m_mo_parseKeyword.2.2.1 8 = .ok (.iconst (-1), 1) := by decide +kernel
theorem d_mo_parseKeyword_9 : decode m_mo_parseKeyword.2.2.1 9 = .ok (.istore_n 3, 1) := by decide +kernel
theorem d_mo_parseKeyword_10 : decode m_mo_parseKeyword.2.2.1 10 = .ok (.iload_n 3, 1) := by decide +kernel
theorem d_mo_parseKeyword_11 : decode m_mo_parseKeyword.2.2.1 11 = .ok (.ifCond .ge 172, 3) := by decide +kernel
theorem d_mo_parseKeyword_14 : decode m_mo_parseKeyword.2.2.1 14 = .ok (.aload_n 0, 1) := by decide +kernel
theorem d_mo_parseKeyword_15 : decode m_mo_parseKeyword.2.2.1 15 = .ok (.getfield 221, 3) := by decide +kernel
theorem d_mo_parseKeyword_18 : decode m_mo_parseKeyword.2.2.1 18 = .ok (.ifCond .ne 165, 3) := by decide +kernel
theorem d_mo_parseKeyword_21 : decode m_mo_parseKeyword.2.2.1 21 = .ok (.iconst 0, 1) := by decide +kernel
theorem d_mo_parseKeyword_22 : decode m_mo_parseKeyword.2.2.1 22 = .ok (.istore 4, 2) := by decide +kernel
theorem d_mo_parseKeyword_24 : decode m_mo_parseKeyword.2.2.1 24 = .ok (.iconst 0, 1) := by decide +kernel
theorem d_mo_parseKeyword_25 : decode m_mo_parseKeyword.2.2.1 25 = .ok (.istore 5, 2) := by decide +kernel
theorem d_mo_parseKeyword_27 : decode m_mo_parseKeyword.2.2.1 27 = .ok (.iload 5, 2) := by decide +kernel
theorem d_mo_parseKeyword_29 : decode m_mo_parseKeyword.2.2.1 29 = .ok (.iconst 5, 1) := by decide +kernel
theorem d_mo_parseKeyword_30 : decode m_mo_parseKeyword.2.2.1 30 = .ok (.if_icmp .gt 113, 3) := by decide +kernel
theorem d_mo_parseKeyword_33 : decode m_mo_parseKeyword.2.2.1 33 = .ok (.iload 5, 2) := by decide +kernel
theorem d_mo_parseKeyword_35 : decode m_mo_parseKeyword.2.2.1 35 = .ok (.invokestatic 251, 3) := by decide +kernel
theorem d_mo_parseKeyword_38 : decode m_mo_parseKeyword.2.2.1 38 = .ok (.astore 6, 2) := by decide +kernel
theorem d_mo_parseKeyword_40 : decode m_mo_parseKeyword.2.2.1 40 = .ok (.iload_n 1, 1) := by decide +kernel
theorem d_mo_parseKeyword_41 : decode m_mo_parseKeyword.2.2.1 41 = .ok (.iload 5, 2) := by decide +kernel
theorem d_mo_parseKeyword_43 : decode m_mo_parseKeyword.2.2.1 43 = .ok (.ishr, 1) := by decide +kernel
theorem d_mo_parseKeyword_44 : decode m_mo_parseKeyword.2.2.1 44 = .ok (.iconst 1, 1) := by decide +kernel
theorem d_mo_parseKeyword_45 : decode m_mo_parseKeyword.2.2.1 45 = .ok (.iand, 1) := by decide +kernel
theorem d_mo_parseKeyword_46 : decode m_mo_parseKeyword.2.2.1 46 = .ok (.iconst 1, 1) := by decide +kernel
theorem d_mo_parseKeyword_47 : decode m_mo_parseKeyword.2.2.1 47 = .ok (.if_icmp .ne 41, 3) := by decide +kernel
theorem d_mo_parseKeyword_50 : decode m_mo_parseKeyword.2.2.1 50 = .ok (.aload_n 0, 1) := by decide +kernel
theorem d_mo_parseKeyword_51 : decode m_mo_parseKeyword.2.2.1 51 = .ok (.getfield 218, 3) := by decide +kernel
theorem d_mo_parseKeyword_54 : decode m_mo_parseKeyword.2.2.1 54 = .ok (.aload_n 0, 1) := by decide +kernel
theorem d_mo_parseKeyword_55 : decode m_mo_parseKeyword.2.2.1 55 = .ok (.getfield 215, 3) := by decide +kernel
theorem d_mo_parseKeyword_58 : decode m_mo_parseKeyword.2.2.1 58 = .ok (.if_icmp .ge 30, 3) := by decide +kernel
theorem d_mo_parseKeyword_61 : decode m_mo_parseKeyword.2.2.1 61 = .ok (.aload 6, 2) := by decide +kernel
theorem d_mo_parseKeyword_63 : decode m_mo_parseKeyword.2.2.1 63 = .ok (.aload_n 0, 1) := by decide +kernel
theorem d_mo_parseKeyword_64 : decode m_mo_parseKeyword.2.2.1 64 = .ok (.getfield 218, 3) := by decide +kernel
theorem d_mo_parseKeyword_67 : decode m_mo_parseKeyword.2.2.1 67 = .ok (.iload_n 2, 1) := by decide +kernel
theorem d_mo_parseKeyword_68 : decode m_mo_parseKeyword.2.2.1 68 = .ok (.isub, 1) := by decide +kernel
theorem d_mo_parseKeyword_69 : decode m_mo_parseKeyword.2.2.1 69 = .ok (.invokevirtual 255, 3) := by decide +kernel
theorem d_mo_parseKeyword_72 : decode m_mo_parseKeyword.2.2.1 72 = .ok (.aload_n 0, 1) := by decide +kernel
theorem d_mo_parseKeyword_73 : decode m_mo_parseKeyword.2.2.1 73 = .ok (.getfield 77, 3) := by decide +kernel
theorem d_mo_parseKeyword_76 : decode m_mo_parseKeyword.2.2.1 76 = .ok (.aload_n 0, 1) := by decide +kernel
theorem d_mo_parseKeyword_77 : decode m_mo_parseKeyword.2.2.1 77 = .ok (.getfield 218, 3) := by decide +kernel
theorem d_mo_parseKeyword_80 : decode m_mo_parseKeyword.2.2.1 80 = .ok (.iaload, 1) := by decide +kernel
theorem d_mo_parseKeyword_81 : decode m_mo_parseKeyword.2.2.1 81 = .ok (.if_icmp .ne 7, 3) := by decide +kernel
theorem d_mo_parseKeyword_84 : decode m_mo_parseKeyword.2.2.1 84 = .ok (.iconst 1, 1) := by decide +kernel
theorem d_mo_parseKeyword_85 : decode m_mo_parseKeyword.2.2.1 85 = .ok (.goto 4, 3) := by decide +kernel
theorem d_mo_parseKeyword_88 : decode m_mo_parseKeyword.2.2.1 88 = .ok (.iconst 0, 1) := by decide +kernel
theorem d_mo_parseKeyword_89 : decode m_mo_parseKeyword.2.2.1 89 = .ok (.istore 7, 2) := by decide +kernel
theorem d_mo_parseKeyword_91 : decode m_mo_parseKeyword.2.2.1 91 = .ok (.iload 4, 2) := by decide +kernel
theorem d_mo_parseKeyword_93 : decode m_mo_parseKeyword.2.2.1 93 = .ok (.iload 7, 2) := by decide +kernel
theorem d_mo_parseKeyword_95 : decode m_mo_parseKeyword.2.2.1 95 = .ok (.ifCond .eq 10, 3) := by decide +kernel
theorem d_mo_parseKeyword_98 : decode m_mo_parseKeyword.2.2.1 98 = .ok (.iconst 1, 1) := by decide +kernel
theorem d_mo_parseKeyword_99 : decode m_mo_parseKeyword.2.2.1 99 = .ok (.iload 5, 2) := by decide +kernel
theorem d_mo_parseKeyword_101 : decode m_mo_parseKeyword.2.2.1 101 = .ok (.ishl, 1) := by decide +kernel
theorem d_mo_parseKeyword_102 : decode m_mo_parseKeyword.2.2.1 102 = .ok (.goto 4, 3) := by decide +kernel
theorem d_mo_parseKeyword_105 : decode m_mo_parseKeyword.2.2.1 105 = .ok (.iconst 0, 1) := by decide +kernel
theorem d_mo_parseKeyword_106 : decode m_mo_parseKeyword.2.2.1 106 = .ok (.ior, 1) := by decide +kernel
theorem d_mo_parseKeyword_107 : decode m_mo_parseKeyword.2.2.1 107 = .ok (.istore 4, 2) := by decide +kernel
theorem d_mo_parseKeyword_109 : decode m_mo_parseKeyword.2.2.1 109 = .ok (.iload 7, 2) := by decide +kernel
theorem d_mo_parseKeyword_111 : decode m_mo_parseKeyword.2.2.1 111 = .ok (.ifCond .eq 24, 3) := by decide +kernel
theorem d_mo_parseKeyword_114 : decode m_mo_parseKeyword.2.2.1 114 = .ok (.aload_n 0, 1) := by decide +kernel
theorem d_mo_parseKeyword_115 : decode m_mo_parseKeyword.2.2.1 115 = .ok (.getfield 218, 3) := by decide +kernel
theorem d_mo_parseKeyword_118 : decode m_mo_parseKeyword.2.2.1 118 = .ok (.iload_n 2, 1) := by decide +kernel
theorem d_mo_parseKeyword_119 : decode m_mo_parseKeyword.2.2.1 119 = .ok (.isub, 1) := by decide +kernel
theorem d_mo_parseKeyword_120 : decode m_mo_parseKeyword.2.2.1 120 = .ok (.aload 6, 2) := by decide +kernel
theorem d_mo_parseKeyword_122 : decode m_mo_parseKeyword.2.2.1 122 = .ok (.invokevirtual 261, 3) := by decide +kernel
theorem d_mo_parseKeyword_125 : decode m_mo_parseKeyword.2.2.1 125 = .ok (.iconst 1, 1) := by decide +kernel
theorem d_mo_parseKeyword_126 : decode m_mo_parseKeyword.2.2.1 126 = .ok (.isub, 1) := by decide +kernel
theorem d_mo_parseKeyword_127 : decode m_mo_parseKeyword.2.2.1 127 = .ok (.if_icmp .ne 8, 3) := by decide +kernel
theorem d_mo_parseKeyword_130 : decode m_mo_parseKeyword.2.2.1 130 = .ok (.iload 5, 2) := by decide +kernel
theorem d_mo_parseKeyword_132 : decode m_mo_parseKeyword.2.2.1 132 = .ok (.goto 4, 3) := by decide +kernel
theorem d_mo_parseKeyword_135 : decode m_mo_parseKeyword.2.2.1 135 = .ok (.iload_n 3, 1) := by decide +kernel
theorem d_mo_parseKeyword_136 : decode m_mo_parseKeyword.2.2.1 136 = .ok (.istore_n 3, 1) := by decide +kernel
theorem d_mo_parseKeyword_137 : decode m_mo_parseKeyword.2.2.1 137 = .ok (.iinc 5 1, 3) := by decide +kernel
theorem d_mo_parseKeyword_140 : decode m_mo_parseKeyword.2.2.1 140 = .ok (.goto (-113), 3) := by decide +kernel
theorem d_mo_parseKeyword_143 : decode m_mo_parseKeyword.2.2.1 143 = .ok (.iload 4, 2) := by decide +kernel
theorem d_mo_parseKeyword_145 : decode m_mo_parseKeyword.2.2.1 145 = .ok (.istore_n 1, 1) := by decide +kernel
theorem d_mo_parseKeyword_146 : decode m_mo_parseKeyword.2.2.1 146 = .ok (.aload_n 0, 1) := by decide +kernel
theorem d_mo_parseKeyword_147 : decode m_mo_parseKeyword.2.2.1 147 = .ok (.iload_n 1, 1) := by decide +kernel
theorem d_mo_parseKeyword_148 : decode m_mo_parseKeyword.2.2.1 148 = .ok (.ifCond .ne 7, 3) := by decide +kernel
theorem d_mo_parseKeyword_151 : decode m_mo_parseKeyword.2.2.1 151 = .ok (.iconst 1, 1) := by decide +kernel
theorem d_mo_parseKeyword_152 : decode m_mo_parseKeyword.2.2.1 152 = .ok (.goto 4, 3) := by decide +kernel
theorem d_mo_parseKeyword_155 : decode m_mo_parseKeyword.2.2.1 155 = .ok (.iconst 0, 1) := by decide +kernel
theorem d_mo_parseKeyword_156 : decode m_mo_parseKeyword.2.2.1 156 = .ok (.putfield 221, 3) := by decide +kernel
theorem d_mo_parseKeyword_159 : decode m_mo_parseKeyword.2.2.1 159 = .ok (.aload_n 0, 1) := by decide +kernel
theorem d_mo_parseKeyword_160 : decode m_mo_parseKeyword.2.2.1 160 = .ok (.dup, 1) := by decide +kernel
theorem d_mo_parseKeyword_161 : decode m_mo_parseKeyword.2.2.1 161 = .ok (.getfield 218, 3) := by decide +kernel
theorem d_mo_parseKeyword_164 : decode m_mo_parseKeyword.2.2.1 164 = .ok (.aload_n 0, 1) := by decide +kernel
theorem d_mo_parseKeyword_165 : decode m_mo_parseKeyword.2.2.1 165 = .ok (.getfield 221, 3) := by decide +kernel
theorem d_mo_parseKeyword_168 : decode m_mo_parseKeyword.2.2.1 168 = .ok (.ifCond .eq 7, 3) := by decide +kernel
theorem d_mo_parseKeyword_171 : decode m_mo_parseKeyword.2.2.1 171 = .ok (.iconst 0, 1) := by decide +kernel
theorem d_mo_parseKeyword_172 : decode m_mo_parseKeyword.2.2.1 172 = .ok (.goto 4, 3) := by decide +kernel
theorem d_mo_parseKeyword_175 : decode m_mo_parseKeyword.2.2.1 175 = .ok (.iconst 1, 1) := by decide +kernel
theorem d_mo_parseKeyword_176 : decode m_mo_parseKeyword.2.2.1 176 = .ok (.iadd, 1) := by decide +kernel
theorem d_mo_parseKeyword_177 : decode m_mo_parseKeyword.2.2.1 177 = .ok (.putfield 218, 3) := by decide +kernel
theorem d_mo_parseKeyword_180 : decode m_mo_parseKeyword.2.2.1 180 = .ok (.goto (-170), 3) := by decide +kernel
theorem d_mo_parseKeyword_183 : decode m_mo_parseKeyword.2.2.1 183 = .ok (.iload_n 3, 1) := by decide +kernel
theorem d_mo_parseKeyword_184 : decode m_mo_parseKeyword.2.2.1 184 = .ok (.ireturn, 1) := by decide +kernel
theorem d_mo_parseNumber_0 : decode m_mo_parseNumber.2.2.1 0 = .ok (.aload_n 0, 1) := by decide +kernel
theorem d_mo_parseNumber_1 : decode m_mo_parseNumber.2.2.1 1 = .ok (.getfield 221, 3) := by decide +kernel
theorem d_mo_parseNumber_4 : decode m_mo_parseNumber.2.2.1 4 = .ok (.ifCond .ne 14, 3) := by decide +kernel
theorem d_mo_parseNumber_7 : decode m_mo_parseNumber.2.2.1 7 = .ok (.aload_n 0, 1) := by decide +kernel
theorem d_mo_parseNumber_8 : decode m_mo_parseNumber.2.2.1 8 = .ok (.bipush 48, 2) := by decide +kernel
theorem d_mo_parseNumber_10 : decode m_mo_parseNumber.2.2.1 10 = .ok (.bipush 57, 2) := by decide +kernel
theorem d_mo_parseNumber_12 : decode m_mo_parseNumber.2.2.1 12 = .ok (.invokevirtual 225, 3) := by decide +kernel
theorem d_mo_parseNumber_15 : decode m_mo_parseNumber.2.2.1 15 = .ok (.ifCond .ne 10, 3) := by decide +kernel
theorem d_mo_parseNumber_18 : decode m_mo_parseNumber.2.2.1 18 = .ok (.aload_n 0, 1) := by decide +kernel
theorem d_mo_parseNumber_19 : decode m_mo_parseNumber.2.2.1 19 = .ok (.iconst 1, 1) := by decide +kernel
theorem d_mo_parseNumber_20 : decode m_mo_parseNumber.2.2.1 20 = .ok (.putfield 221, 3) := by decide +kernel
theorem d_mo_parseNumber_23 : decode m_mo_parseNumber.2.2.1 23 = .ok (.iconst 0, 1) := by decide +kernel
theorem d_mo_parseNumber_24 : decode m_mo_parseNumber.2.2.1 24 = .ok (.ireturn, 1) := by decide +kernel
theorem d_mo_parseNumber_25 : decode m_mo_parseNumber.2.2.1 25 = .ok (.iconst 0, 1) := by decide +kernel
theorem d_mo_parseNumber_26 : decode m_mo_parseNumber.2.2.1 26 = .ok (.istore_n 1, 1) := by decide +kernel
theorem d_mo_parseNumber_27 : decode m_mo_parseNumber.2.2.1 27 = .ok (.iconst 0, 1) := by decide +kernel
theorem d_mo_parseNumber_28 : decode m_mo_parseNumber.2.2.1 28 = .ok (.istore_n 2, 1) := by decide +kernel
theorem d_mo_parseNumber_29 : decode m_mo_parseNumber.2.2.1 29 = .ok (.iload_n 2, 1) := by decide +kernel
theorem d_mo_parseNumber_30 : decode m_mo_parseNumber.2.2.1 30 = .ok (.iconst 4, 1) := by decide +kernel
theorem d_mo_parseNumber_31 : decode m_mo_parseNumber.2.2.1 31 = .ok (.if_icmp .ge 48, 3) := by decide +kernel
theorem d_mo_parseNumber_34 : decode m_mo_parseNumber.2.2.1 34 = .ok (.aload_n 0, 1) := by decide +kernel
theorem d_mo_parseNumber_35 : decode m_mo_parseNumber.2.2.1 35 = .ok (.bipush 48, 2) := by decide +kernel
theorem d_mo_parseNumber_37 : decode m_mo_parseNumber.2.2.1 37 = .ok (.bipush 57, 2) := by decide +kernel
theorem d_mo_parseNumber_39 : decode m_mo_parseNumber.2.2.1 39 = .ok (.invokevirtual 225, 3) := by decide +kernel
theorem d_mo_parseNumber_42 : decode m_mo_parseNumber.2.2.1 42 = .ok (.ifCond .eq 37, 3) := by decide +kernel
theorem d_mo_parseNumber_45 : decode m_mo_parseNumber.2.2.1 45 = .ok (.bipush 10, 2) := by decide +kernel
theorem d_mo_parseNumber_47 : decode m_mo_parseNumber.2.2.1 47 = .ok (.iload_n 1, 1) := by decide +kernel
theorem d_mo_parseNumber_48 : decode m_mo_parseNumber.2.2.1 48 = .ok (.imul, 1) := by decide +kernel
theorem d_mo_parseNumber_49 : decode m_mo_parseNumber.2.2.1 49 = .ok (.aload_n 0, 1) := by decide +kernel
theorem d_mo_parseNumber_50 : decode m_mo_parseNumber.2.2.1 50 = .ok (.getfield 77, 3) := by decide +kernel
theorem d_mo_parseNumber_53 : decode m_mo_parseNumber.2.2.1 53 = .ok (.aload_n 0, 1) := by decide +kernel
theorem d_mo_parseNumber_54 : decode m_mo_parseNumber.2.2.1 54 = .ok (.getfield 218, 3) := by decide +kernel
theorem d_mo_parseNumber_57 : decode m_mo_parseNumber.2.2.1 57 = .ok (.iaload, 1) := by decide +kernel
theorem d_mo_parseNumber_58 : decode m_mo_parseNumber.2.2.1 58 = .ok (.iadd, 1) := by decide +kernel
theorem d_mo_parseNumber_59 : decode m_mo_parseNumber.2.2.1 59 = .ok (.bipush 48, 2) := by decide +kernel
theorem d_mo_parseNumber_61 : decode m_mo_parseNumber.2.2.1 61 = .ok (.isub, 1) := by decide +kernel
theorem d_mo_parseNumber_62 : decode m_mo_parseNumber.2.2.1 62 = .ok (.istore_n 1, 1) := by decide +kernel
theorem d_mo_parseNumber_63 : decode m_mo_parseNumber.2.2.1 63 = .ok (.aload_n 0, 1) := by decide +kernel
theorem d_mo_parseNumber_64 : decode m_mo_parseNumber.2.2.1 64 = .ok (.dup, 1) := by decide +kernel
theorem d_mo_parseNumber_65 : decode m_mo_parseNumber.2.2.1 65 = .ok (.getfield 218, 3) := by decide +kernel
theorem d_mo_parseNumber_68 : decode m_mo_parseNumber.2.2.1 68 = .ok (.iconst 1, 1) := by decide +kernel
theorem d_mo_parseNumber_69 : decode m_mo_parseNumber.2.2.1 69 = .ok (.iadd, 1) := by decide +kernel
theorem d_mo_parseNumber_70 : decode m_mo_parseNumber.2.2.1 70 = .ok (.putfield 218, 3) := by decide +kernel
theorem d_mo_parseNumber_73 : decode m_mo_parseNumber.2.2.1 73 = .ok (.iinc 2 1, 3) := by decide +kernel
theorem d_mo_parseNumber_76 : decode m_mo_parseNumber.2.2.1 76 = .ok (.goto (-47), 3) := by decide +kernel
theorem d_mo_parseNumber_79 : decode m_mo_parseNumber.2.2.1 79 = .ok (.iload_n 1, 1) := by decide +kernel
theorem d_mo_parseNumber_80 : decode m_mo_parseNumber.2.2.1 80 = .ok (.ireturn, 1) := by decide +kernel
theorem d_mo_parseInstruction_0 : decode m_mo_parseInstruction.2.2.1 0 = .ok (.aload_n 0, 1) := by decide +kernel
theorem d_mo_parseInstruction_1 : decode m_mo_parseInstruction.2.2.1 1 = .ok (.invokevirtual 263, 3) := by decide +kernel
theorem d_mo_parseInstruction_4 : decode m_mo_parseInstruction.2.2.1 4 = .ok (.istore_n 2, 1) := by decide +kernel
theorem d_mo_parseInstruction_5 : decode m_mo_parseInstruction.2.2.1 5 = .ok (.aload_n 0, 1) := by decide +kernel
theorem d_mo_parseInstruction_6 : decode m_mo_parseInstruction.2.2.1 6 = .ok (.getfield 31, 3) := by decide +kernel
theorem d_mo_parseInstruction_9 : decode m_mo_parseInstruction.2.2.1 9 = .ok (.iload_n 1, 1) := by decide +kernel
theorem d_mo_parseInstruction_10 : decode m_mo_parseInstruction.2.2.1 10 = .ok (.iload_n 2, 1) := by decide +kernel
theorem d_mo_parseInstruction_11 : decode m_mo_parseInstruction.2.2.1 11 = .ok (.iastore, 1) := by decide +kernel
theorem d_mo_parseInstruction_12 : decode m_mo_parseInstruction.2.2.1 12 = .ok (.aload_n 0, 1) := by decide +kernel
theorem d_mo_parseInstruction_13 : decode m_mo_parseInstruction.2.2.1 13 = .ok (.getfield 34, 3) := by decide +kernel
theorem d_mo_parseInstruction_16 : decode m_mo_parseInstruction.2.2.1 16 = .ok (.iload_n 1, 1) := by decide +kernel
theorem d_mo_parseInstruction_17 : decode m_mo_parseInstruction.2.2.1 17 = .ok (.iconst 0, 1) := by decide +kernel
theorem d_mo_parseInstruction_18 : decode m_mo_parseInstruction.2.2.1 18 = .ok (.iastore, 1) := by decide +kernel
theorem d_mo_parseInstruction_19 : decode m_mo_parseInstruction.2.2.1 19 = .ok (.aload_n 0, 1) := by decide +kernel
theorem d_mo_parseInstruction_20 : decode m_mo_parseInstruction.2.2.1 20 = .ok (.getfield 221, 3) := by decide +kernel
theorem d_mo_parseInstruction_23 : decode m_mo_parseInstruction.2.2.1 23 = .ok (.ifCond .eq 4, 3) := by decide +kernel
theorem d_mo_parseInstruction_26 : decode m_mo_parseInstruction.2.2.1 26 = .ok (.return_, 1) := by decide +kernel
theorem d_mo_parseInstruction_27 : decode m_mo_parseInstruction.2.2.1 27 = .ok (.aload_n 0, 1) := by decide +kernel
theorem d_mo_parseInstruction_28 : decode m_mo_parseInstruction.2.2.1 28 = .ok (.aload_n 0, 1) := by decide +kernel
theorem d_mo_parseInstruction_29 : decode m_mo_parseInstruction.2.2.1 29 = .ok (.getfield 37, 3) := by decide +kernel
theorem d_mo_parseInstruction_32 : decode m_mo_parseInstruction.2.2.1 32 = .ok (.bipush 6, 2) := by decide +kernel
theorem d_mo_parseInstruction_34 : decode m_mo_parseInstruction.2.2.1 34 = .ok (.iload_n 1, 1) := by decide +kernel
theorem d_mo_parseInstruction_35 : decode m_mo_parseInstruction.2.2.1 35 = .ok (.imul, 1) := by decide +kernel
theorem d_mo_parseInstruction_36 : decode m_mo_parseInstruction.2.2.1 36 = .ok (.invokevirtual 266, 3) := by decide +kernel
theorem d_mo_parseInstruction_39 : decode m_mo_parseInstruction.2.2.1 39 = .ok (.iload_n 2, 1) := by decide +kernel
theorem d_mo_parseInstruction_40 : decode m_mo_parseInstruction.2.2.1 40 = .ok (.iconst 2, 1) := by decide +kernel
theorem d_mo_parseInstruction_41 : decode m_mo_parseInstruction.2.2.1 41 = .ok (.if_icmp .le 8, 3) := by decide +kernel
theorem d_mo_parseInstruction_44 : decode m_mo_parseInstruction.2.2.1 44 = .ok (.iload_n 2, 1) := by decide +kernel
theorem d_mo_parseInstruction_45 : decode m_mo_parseInstruction.2.2.1 45 = .ok (.iconst 4, 1) := by decide +kernel
theorem d_mo_parseInstruction_46 : decode m_mo_parseInstruction.2.2.1 46 = .ok (.if_icmp .ne 48, 3) := by decide +kernel
theorem d_mo_parseInstruction_49 : decode m_mo_parseInstruction.2.2.1 49 = .ok (.aload_n 0, 1) := by decide +kernel
theorem d_mo_parseInstruction_50 : decode m_mo_parseInstruction.2.2.1 50 = .ok (.getfield 221, 3) := by decide +kernel
theorem d_mo_parseInstruction_53 : decode m_mo_parseInstruction.2.2.1 53 = .ok (.ifCond .ne 9, 3) := by decide +kernel
theorem d_mo_parseInstruction_56 : decode m_mo_parseInstruction.2.2.1 56 = .ok (.aload_n 0, 1) := by decide +kernel
theorem d_mo_parseInstruction_57 : decode m_mo_parseInstruction.2.2.1 57 = .ok (.bipush 32, 2) := by decide +kernel
theorem d_mo_parseInstruction_59 : decode m_mo_parseInstruction.2.2.1 59 = .ok (.invokevirtual 236, 3) := by decide +kernel
theorem d_mo_parseInstruction_62 : decode m_mo_parseInstruction.2.2.1 62 = .ok (.iload_n 2, 1) := by decide +kernel
theorem d_mo_parseInstruction_63 : decode m_mo_parseInstruction.2.2.1 63 = .ok (.iconst 4, 1) := by decide +kernel
theorem d_mo_parseInstruction_64 : decode m_mo_parseInstruction.2.2.1 64 = .ok (.if_icmp .ne 20, 3) := by decide +kernel
theorem d_mo_parseInstruction_67 : decode m_mo_parseInstruction.2.2.1 67 = .ok (.aload_n 0, 1) := by decide +kernel
theorem d_mo_parseInstruction_68 : decode m_mo_parseInstruction.2.2.1 68 = .ok (.aload_n 0, 1) := by decide +kernel
theorem d_mo_parseInstruction_69 : decode m_mo_parseInstruction.2.2.1 69 = .ok (.getfield 37, 3) := by decide +kernel
theorem d_mo_parseInstruction_72 : decode m_mo_parseInstruction.2.2.1 72 = .ok (.bipush 6, 2) := by decide +kernel
theorem d_mo_parseInstruction_74 : decode m_mo_parseInstruction.2.2.1 74 = .ok (.iload_n 1, 1) := by decide +kernel
theorem d_mo_parseInstruction_75 : decode m_mo_parseInstruction.2.2.1 75 = .ok (.imul, 1) := by decide +kernel
theorem d_mo_parseInstruction_76 : decode m_mo_parseInstruction.2.2.1 76 = .ok (.iconst 3, 1) := by decide +kernel
theorem d_mo_parseInstruction_77 : decode m_mo_parseInstruction.2.2.1 77 = .ok (.iadd, 1) := by decide +kernel
theorem d_mo_parseInstruction_78 : decode m_mo_parseInstruction.2.2.1 78 = .ok (.invokevirtual 266, 3) := by decide +kernel
theorem d_mo_parseInstruction_81 : decode m_mo_parseInstruction.2.2.1 81 = .ok (.goto 13, 3) := by decide +kernel
theorem d_mo_parseInstruction_84 : decode m_mo_parseInstruction.2.2.1 84 = .ok (.aload_n 0, 1) := by decide +kernel
theorem d_mo_parseInstruction_85 : decode m_mo_parseInstruction.2.2.1 85 = .ok (.getfield 34, 3) := by decide +kernel
theorem d_mo_parseInstruction_88 : decode m_mo_parseInstruction.2.2.1 88 = .ok (.iload_n 1, 1) := by decide +kernel
theorem d_mo_parseInstruction_89 : decode m_mo_parseInstruction.2.2.1 89 = .ok (.aload_n 0, 1) := by decide +kernel
theorem d_mo_parseInstruction_90 : decode m_mo_parseInstruction.2.2.1 90 = .ok (.invokevirtual 270, 3) := by decide +kernel
theorem d_mo_parseInstruction_93 : decode m_mo_parseInstruction.2.2.1 93 = .ok (.iastore, 1) := by decide +kernel
theorem d_mo_parseInstruction_94 : decode m_mo_parseInstruction.2.2.1 94 = .ok (.return_, 1) := by decide +kernel
theorem d_mo_addAmendment_0 : decode m_mo_addAmendment.2.2.1 0 = .ok (.aload_n 0, 1) := by decide +kernel
theorem d_mo_addAmendment_1 : decode m_mo_addAmendment.2.2.1 1 = .ok (.iload_n 1, 1) := by decide +kernel
theorem d_mo_addAmendment_2 : decode m_mo_addAmendment.2.2.1 2 = .ok (.invokevirtual 273, 3) := by decide +kernel
theorem d_mo_addAmendment_5 : decode m_mo_addAmendment.2.2.1 5 = .ok (.istore_n 2, 1) := by decide +kernel
theorem d_mo_addAmendment_6 : decode m_mo_addAmendment.2.2.1 6 = .ok (.aload_n 0, 1) := by decide +kernel
theorem d_mo_addAmendment_7 : decode m_mo_addAmendment.2.2.1 7 = .ok (.iconst 0, 1) := by decide +kernel
theorem d_mo_addAmendment_8 : decode m_mo_addAmendment.2.2.1 8 = .ok (.putfield 215, 3) := by decide +kernel
theorem d_mo_addAmendment_11 : decode m_mo_addAmendment.2.2.1 11 = .ok (.iload_n 2, 1) := by decide +kernel
theorem d_mo_addAmendment_12 : decode m_mo_addAmendment.2.2.1 12 = .ok (.ireturn, 1) := by decide +kernel
theorem d_mo_readAmendment_0 : decode m_mo_readAmendment.2.2.1 0 = .ok (.iload_n 1, 1) := by decide +kernel
theorem d_mo_readAmendment_1 : decode m_mo_readAmendment.2.2.1 1 = .ok (.iconst 0, 1) := by decide +kernel
theorem d_mo_readAmendment_2 : decode m_mo_readAmendment.2.2.1 2 = .ok (.sipush 9999, 3) := by decide +kernel
theorem d_mo_readAmendment_5 : decode m_mo_readAmendment.2.2.1 5 = .ok (.invokestatic 189, 3) := by decide +kernel
theorem d_mo_readAmendment_8 : decode m_mo_readAmendment.2.2.1 8 = .ok (.ifCond .ne 6, 3) := by decide +kernel
theorem d_mo_readAmendment_11 : decode m_mo_readAmendment.2.2.1 11 = .ok (.bipush (-4), 2) := by decide +kernel
theorem d_mo_readAmendment_13 : decode m_mo_readAmendment.2.2.1 13 = .ok (.ireturn, 1) := by decide +kernel
theorem d_mo_readAmendment_14 : decode m_mo_readAmendment.2.2.1 14 = .ok (.aload_n 0, 1) := by decide +kernel
theorem d_mo_readAmendment_15 : decode m_mo_readAmendment.2.2.1 15 = .ok (.getfield 209, 3) := by decide +kernel
theorem d_mo_readAmendment_18 : decode m_mo_readAmendment.2.2.1 18 = .ok (.bipush 8, 2) := by decide +kernel
theorem d_mo_readAmendment_20 : decode m_mo_readAmendment.2.2.1 20 = .ok (.if_icmp .ne 6, 3) := by decide +kernel
theorem d_mo_readAmendment_23 : decode m_mo_readAmendment.2.2.1 23 = .ok (.bipush (-6), 2) := by decide +kernel
theorem d_mo_readAmendment_25 : decode m_mo_readAmendment.2.2.1 25 = .ok (.ireturn, 1) := by decide +kernel
theorem d_mo_readAmendment_26 : decode m_mo_readAmendment.2.2.1 26 = .ok (.aload_n 0, 1) := by decide +kernel
theorem d_mo_readAmendment_27 : decode m_mo_readAmendment.2.2.1 27 = .ok (.iconst 0, 1) := by decide +kernel
theorem d_mo_readAmendment_28 : decode m_mo_readAmendment.2.2.1 28 = .ok (.putfield 218, 3) := by decide +kernel
theorem d_mo_readAmendment_31 : decode m_mo_readAmendment.2.2.1 31 = .ok (.aload_n 0, 1) := by decide +kernel
theorem d_mo_readAmendment_32 : decode m_mo_readAmendment.2.2.1 32 = .ok (.iconst 0, 1) := by decide +kernel
theorem d_mo_readAmendment_33 : decode m_mo_readAmendment.2.2.1 33 = .ok (.putfield 221, 3) := by decide +kernel
theorem d_mo_readAmendment_36 : decode m_mo_readAmendment.2.2.1 36 = .ok (.iconst 0, 1) := by decide +kernel
theorem d_mo_readAmendment_37 : decode m_mo_readAmendment.2.2.1 37 = .ok (.istore_n 2, 1) := by decide +kernel
theorem d_mo_readAmendment_38 : decode m_mo_readAmendment.2.2.1 38 = .ok (.iconst 1, 1) := by decide +kernel
theorem d_mo_readAmendment_39 : decode m_mo_readAmendment.2.2.1 39 = .ok (.istore_n 3, 1) := by decide +kernel
theorem d_mo_readAmendment_40 : decode m_mo_readAmendment.2.2.1 40 = .ok (.iload_n 3, 1) := by decide +kernel
theorem d_mo_readAmendment_41 : decode m_mo_readAmendment.2.2.1 41 = .ok (.ifCond .eq 29, 3) := by decide +kernel
theorem d_mo_readAmendment_44 : decode m_mo_readAmendment.2.2.1 44 = .ok (.aload_n 0, 1) := by decide +kernel
theorem d_mo_readAmendment_45 : decode m_mo_readAmendment.2.2.1 45 = .ok (.bipush 16, 2) := by decide +kernel
theorem d_mo_readAmendment_47 : decode m_mo_readAmendment.2.2.1 47 = .ok (.aload_n 0, 1) := by decide +kernel
theorem d_mo_readAmendment_48 : decode m_mo_readAmendment.2.2.1 48 = .ok (.getfield 209, 3) := by decide +kernel
theorem d_mo_readAmendment_51 : decode m_mo_readAmendment.2.2.1 51 = .ok (.imul, 1) := by decide +kernel
theorem d_mo_readAmendment_52 : decode m_mo_readAmendment.2.2.1 52 = .ok (.iload_n 2, 1) := by decide +kernel
theorem d_mo_readAmendment_53 : decode m_mo_readAmendment.2.2.1 53 = .ok (.iadd, 1) := by decide +kernel
theorem d_mo_readAmendment_54 : decode m_mo_readAmendment.2.2.1 54 = .ok (.invokevirtual 276, 3) := by decide +kernel
theorem d_mo_readAmendment_57 : decode m_mo_readAmendment.2.2.1 57 = .ok (.iinc 2 1, 3) := by decide +kernel
theorem d_mo_readAmendment_60 : decode m_mo_readAmendment.2.2.1 60 = .ok (.aload_n 0, 1) := by decide +kernel
theorem d_mo_readAmendment_61 : decode m_mo_readAmendment.2.2.1 61 = .ok (.bipush 59, 2) := by decide +kernel
theorem d_mo_readAmendment_63 : decode m_mo_readAmendment.2.2.1 63 = .ok (.invokevirtual 229, 3) := by decide +kernel
theorem d_mo_readAmendment_66 : decode m_mo_readAmendment.2.2.1 66 = .ok (.istore_n 3, 1) := by decide +kernel
theorem d_mo_readAmendment_67 : decode m_mo_readAmendment.2.2.1 67 = .ok (.goto (-27), 3) := by decide +kernel
theorem d_mo_readAmendment_70 : decode m_mo_readAmendment.2.2.1 70 = .ok (.aload_n 0, 1) := by decide +kernel
theorem d_mo_readAmendment_71 : decode m_mo_readAmendment.2.2.1 71 = .ok (.getfield 221, 3) := by decide +kernel
theorem d_mo_readAmendment_74 : decode m_mo_readAmendment.2.2.1 74 = .ok (.ifCond .ne 14, 3) := by decide +kernel
theorem d_mo_readAmendment_77 : decode m_mo_readAmendment.2.2.1 77 = .ok (.aload_n 0, 1) := by decide +kernel
theorem d_mo_readAmendment_78 : decode m_mo_readAmendment.2.2.1 78 = .ok (.getfield 218, 3) := by decide +kernel
theorem d_mo_readAmendment_81 : decode m_mo_readAmendment.2.2.1 81 = .ok (.aload_n 0, 1) := by decide +kernel
theorem d_mo_readAmendment_82 : decode m_mo_readAmendment.2.2.1 82 = .ok (.getfield 215, 3) := by decide +kernel
theorem d_mo_readAmendment_85 : decode m_mo_readAmendment.2.2.1 85 = .ok (.if_icmp .ge 12, 3) := by decide +kernel
theorem d_mo_readAmendment_88 : decode m_mo_readAmendment.2.2.1 88 = .ok (.sipush (-1000), 3) := by decide +kernel
theorem d_mo_readAmendment_91 : decode m_mo_readAmendment.2.2.1 91 = .ok (.aload_n 0, 1) := by decide +kernel
theorem d_mo_readAmendment_92 : decode m_mo_readAmendment.2.2.1 92 = .ok (.getfield 218, 3) := by decide +kernel
theorem d_mo_readAmendment_95 : decode m_mo_readAmendment.2.2.1 95 = .ok (.isub, 1) := by decide +kernel
theorem d_mo_readAmendment_96 : decode m_mo_readAmendment.2.2.1 96 = .ok (.ireturn, 1) := by decide +kernel
theorem d_mo_readAmendment_97 : decode m_mo_readAmendment.2.2.1 97 = .ok (.aload_n 0, 1) := by decide +kernel
theorem d_mo_readAmendment_98 : decode m_mo_readAmendment.2.2.1 98 = .ok (.getfield 25, 3) := by decide +kernel
theorem d_mo_readAmendment_101 : decode m_mo_readAmendment.2.2.1 101 = .ok (.aload_n 0, 1) := by decide +kernel
theorem d_mo_readAmendment_102 : decode m_mo_readAmendment.2.2.1 102 = .ok (.getfield 209, 3) := by decide +kernel
theorem d_mo_readAmendment_105 : decode m_mo_readAmendment.2.2.1 105 = .ok (.iload_n 1, 1) := by decide +kernel
theorem d_mo_readAmendment_106 : decode m_mo_readAmendment.2.2.1 106 = .ok (.iastore, 1) := by decide +kernel
theorem d_mo_readAmendment_107 : decode m_mo_readAmendment.2.2.1 107 = .ok (.aload_n 0, 1) := by decide +kernel
theorem d_mo_readAmendment_108 : decode m_mo_readAmendment.2.2.1 108 = .ok (.getfield 28, 3) := by decide +kernel
theorem d_mo_readAmendment_111 : decode m_mo_readAmendment.2.2.1 111 = .ok (.aload_n 0, 1) := by decide +kernel
theorem d_mo_readAmendment_112 : decode m_mo_readAmendment.2.2.1 112 = .ok (.getfield 209, 3) := by decide +kernel
theorem d_mo_readAmendment_115 : decode m_mo_readAmendment.2.2.1 115 = .ok (.iload_n 2, 1) := by decide +kernel
theorem d_mo_readAmendment_116 : decode m_mo_readAmendment.2.2.1 116 = .ok (.iastore, 1) := by decide +kernel
theorem d_mo_readAmendment_117 : decode m_mo_readAmendment.2.2.1 117 = .ok (.aload_n 0, 1) := by decide +kernel
theorem d_mo_readAmendment_118 : decode m_mo_readAmendment.2.2.1 118 = .ok (.dup, 1) := by decide +kernel
theorem d_mo_readAmendment_119 : decode m_mo_readAmendment.2.2.1 119 = .ok (.getfield 209, 3) := by decide +kernel
theorem d_mo_readAmendment_122 : decode m_mo_readAmendment.2.2.1 122 = .ok (.iconst 1, 1) := by decide +kernel
theorem d_mo_readAmendment_123 : decode m_mo_readAmendment.2.2.1 123 = .ok (.iadd, 1) := by decide +kernel
theorem d_mo_readAmendment_124 : decode m_mo_readAmendment.2.2.1 124 = .ok (.putfield 209, 3) := by decide +kernel
theorem d_mo_readAmendment_127 : decode m_mo_readAmendment.2.2.1 127 = .ok (.aload_n 0, 1) := by decide +kernel
theorem d_mo_readAmendment_128 : decode m_mo_readAmendment.2.2.1 128 = .ok (.getfield 209, 3) := by decide +kernel
theorem d_mo_readAmendment_131 : decode m_mo_readAmendment.2.2.1 131 = .ok (.iconst 1, 1) := by decide +kernel
theorem d_mo_readAmendment_132 : decode m_mo_readAmendment.2.2.1 132 = .ok (.isub, 1) := by decide +kernel
theorem d_mo_readAmendment_133 : decode m_mo_readAmendment.2.2.1 133 = .ok (.ireturn, 1) := by decide +kernel
theorem d_mo_isAmendment_0 : decode m_mo_isAmendment.2.2.1 0 = .ok (.iload_n 1, 1) := by decide +kernel
theorem d_mo_isAmendment_1 : decode m_mo_isAmendment.2.2.1 1 = .ok (.iconst 0, 1) := by decide +kernel
theorem d_mo_isAmendment_2 : decode m_mo_isAmendment.2.2.1 2 = .ok (.aload_n 0, 1) := by decide +kernel
theorem d_mo_isAmendment_3 : decode m_mo_isAmendment.2.2.1 3 = .ok (.getfield 209, 3) := by decide +kernel
theorem d_mo_isAmendment_6 : decode m_mo_isAmendment.2.2.1 6 = .ok (.iconst 1, 1) := by decide +kernel
theorem d_mo_isAmendment_7 : decode m_mo_isAmendment.2.2.1 7 = .ok (.isub, 1) := by decide +kernel
theorem d_mo_isAmendment_8 : decode m_mo_isAmendment.2.2.1 8 = .ok (.invokestatic 189, 3) := by decide +kernel
theorem d_mo_isAmendment_11 : decode m_mo_isAmendment.2.2.1 11 = .ok (.ireturn, 1) := by decide +kernel
theorem d_mo_amendmentCount_0 : decode m_mo_amendmentCount.2.2.1 0 = .ok (.aload_n 0, 1) := by decide +kernel
theorem d_mo_amendmentCount_1 : decode m_mo_amendmentCount.2.2.1 1 = .ok (.getfield 209, 3) := by decide +kernel
theorem d_mo_amendmentCount_4 : decode m_mo_amendmentCount.2.2.1 4 = .ok (.ireturn, 1) := by decide +kernel
theorem d_mo_instructionCount_0 : decode m_mo_instructionCount.2.2.1 0 = .ok (.aload_n 0, 1) := by decide +kernel
theorem d_mo_instructionCount_1 : decode m_mo_instructionCount.2.2.1 1 = .ok (.iload_n 1, 1) := by decide +kernel
theorem d_mo_instructionCount_2 : decode m_mo_instructionCount.2.2.1 2 = .ok (.invokevirtual 279, 3) := by decide +kernel
theorem d_mo_instructionCount_5 : decode m_mo_instructionCount.2.2.1 5 = .ok (.ifCond .eq 12, 3) := by decide +kernel
theorem d_mo_instructionCount_8 : decode m_mo_instructionCount.2.2.1 8 = .ok (.aload_n 0, 1) := by decide +kernel
theorem d_mo_instructionCount_9 : decode m_mo_instructionCount.2.2.1 9 = .ok (.getfield 28, 3) := by decide +kernel
theorem d_mo_instructionCount_12 : decode m_mo_instructionCount.2.2.1 12 = .ok (.iload_n 1, 1) := by decide +kernel
theorem d_mo_instructionCount_13 : decode m_mo_instructionCount.2.2.1 13 = .ok (.iaload, 1) := by decide +kernel
theorem d_mo_instructionCount_14 : decode m_mo_instructionCount.2.2.1 14 = .ok (.goto 5, 3) := by decide +kernel
theorem d_mo_instructionCount_17 : decode m_mo_instructionCount.2.2.1 17 = .ok (.bipush (-3), 2) := by decide +kernel
theorem d_mo_instructionCount_19 : decode m_mo_instructionCount.2.2.1 19 = .ok (.ireturn, 1) := by decide +kernel
theorem d_mo_setCommencement_0 : decode m_mo_setCommencement.2.2.1 0 = .ok (.aload_n 0, 1) := by decide +kernel
theorem d_mo_setCommencement_1 : decode m_mo_setCommencement.2.2.1 1 = .ok (.iload_n 1, 1) := by decide +kernel
theorem d_mo_setCommencement_2 : decode m_mo_setCommencement.2.2.1 2 = .ok (.invokevirtual 279, 3) := by decide +kernel
theorem d_mo_setCommencement_5 : decode m_mo_setCommencement.2.2.1 5 = .ok (.ifCond .ne 6, 3) := by decide +kernel
theorem d_mo_setCommencement_8 : decode m_mo_setCommencement.2.2.1 8 = .ok (.bipush (-3), 2) := by decide +kernel
theorem d_mo_setCommencement_10 : decode m_mo_setCommencement.2.2.1 10 = .ok (.ireturn, 1) := by decide +kernel
theorem d_mo_setCommencement_11 : decode m_mo_setCommencement.2.2.1 11 = .ok (.iload_n 2, 1) := by decide +kernel
theorem d_mo_setCommencement_12 : decode m_mo_setCommencement.2.2.1 12 = .ok (.iconst 0, 1) := by decide +kernel
theorem d_mo_setCommencement_13 : decode m_mo_setCommencement.2.2.1 13 = .ok (.sipush 9999, 3) := by decide +kernel
theorem d_mo_setCommencement_16 : decode m_mo_setCommencement.2.2.1 16 = .ok (.invokestatic 189, 3) := by decide +kernel
theorem d_mo_setCommencement_19 : decode m_mo_setCommencement.2.2.1 19 = .ok (.ifCond .ne 6, 3) := by decide +kernel
theorem d_mo_setCommencement_22 : decode m_mo_setCommencement.2.2.1 22 = .ok (.bipush (-4), 2) := by decide +kernel
theorem d_mo_setCommencement_24 : decode m_mo_setCommencement.2.2.1 24 = .ok (.ireturn, 1) := by decide +kernel
theorem d_mo_setCommencement_25 : decode m_mo_setCommencement.2.2.1 25 = .ok (.aload_n 0, 1) := by decide +kernel
theorem d_mo_setCommencement_26 : decode m_mo_setCommencement.2.2.1 26 = .ok (.getfield 25, 3) := by decide +kernel
theorem d_mo_setCommencement_29 : decode m_mo_setCommencement.2.2.1 29 = .ok (.iload_n 1, 1) := by decide +kernel
theorem d_mo_setCommencement_30 : decode m_mo_setCommencement.2.2.1 30 = .ok (.iaload, 1) := by decide +kernel
theorem d_mo_setCommencement_31 : decode m_mo_setCommencement.2.2.1 31 = .ok (.istore_n 3, 1) := by decide +kernel
theorem d_mo_setCommencement_32 : decode m_mo_setCommencement.2.2.1 32 = .ok (.aload_n 0, 1) := by decide +kernel
theorem d_mo_setCommencement_33 : decode m_mo_setCommencement.2.2.1 33 = .ok (.getfield 25, 3) := by decide +kernel
theorem d_mo_setCommencement_36 : decode m_mo_setCommencement.2.2.1 36 = .ok (.iload_n 1, 1) := by decide +kernel
theorem d_mo_setCommencement_37 : decode m_mo_setCommencement.2.2.1 37 = .ok (.iload_n 2, 1) := by decide +kernel
theorem d_mo_setCommencement_38 : decode m_mo_setCommencement.2.2.1 38 = .ok (.iastore, 1) := by decide +kernel
theorem d_mo_setCommencement_39 : decode m_mo_setCommencement.2.2.1 39 = .ok (.iload_n 3, 1) := by decide +kernel
theorem d_mo_setCommencement_40 : decode m_mo_setCommencement.2.2.1 40 = .ok (.ireturn, 1) := by decide +kernel
theorem d_mo_removeLastAmendment_0 : decode m_mo_removeLastAmendment.2.2.1 0 = .ok (.aload_n 0, 1) := by decide +kernel
theorem d_mo_removeLastAmendment_1 : decode m_mo_removeLastAmendment.2.2.1 1 = .ok (.getfield 209, 3) := by decide +kernel
theorem d_mo_removeLastAmendment_4 : decode m_mo_removeLastAmendment.2.2.1 4 = .ok (.ifCond .ne 6, 3) := by decide +kernel
theorem d_mo_removeLastAmendment_7 : decode m_mo_removeLastAmendment.2.2.1 7 = .ok (.bipush (-9), 2) := by decide +kernel
theorem d_mo_removeLastAmendment_9 : decode m_mo_removeLastAmendment.2.2.1 9 = .ok (.ireturn, 1) := by decide +kernel
theorem d_mo_removeLastAmendment_10 : decode m_mo_removeLastAmendment.2.2.1 10 = .ok (.aload_n 0, 1) := by decide +kernel
theorem d_mo_removeLastAmendment_11 : decode m_mo_removeLastAmendment.2.2.1 11 = .ok (.dup, 1) := by decide +kernel
theorem d_mo_removeLastAmendment_12 : decode m_mo_removeLastAmendment.2.2.1 12 = .ok (.getfield 209, 3) := by decide +kernel
theorem d_mo_removeLastAmendment_15 : decode m_mo_removeLastAmendment.2.2.1 15 = .ok (.iconst 1, 1) := by decide +kernel
theorem d_mo_removeLastAmendment_16 : decode m_mo_removeLastAmendment.2.2.1 16 = .ok (.isub, 1) := by decide +kernel
theorem d_mo_removeLastAmendment_17 : decode m_mo_removeLastAmendment.2.2.1 17 = .ok (.putfield 209, 3) := by decide +kernel
theorem d_mo_removeLastAmendment_20 : decode m_mo_removeLastAmendment.2.2.1 20 = .ok (.aload_n 0, 1) := by decide +kernel
theorem d_mo_removeLastAmendment_21 : decode m_mo_removeLastAmendment.2.2.1 21 = .ok (.getfield 209, 3) := by decide +kernel
theorem d_mo_removeLastAmendment_24 : decode m_mo_removeLastAmendment.2.2.1 24 = .ok (.ireturn, 1) := by decide +kernel
theorem d_mo_lookUp_0 : decode m_mo_lookUp.2.2.1 0 = .ok (.iconst (-1), 1) := by decide +kernel
theorem d_mo_lookUp_1 : decode m_mo_lookUp.2.2.1 1 = .ok (.istore_n 3, 1) := by decide +kernel
theorem d_mo_lookUp_2 : decode m_mo_lookUp.2.2.1 2 = .ok (.iconst 0, 1) := by decide +kernel
theorem d_mo_lookUp_3 : decode m_mo_lookUp.2.2.1 3 = .ok (.istore 4, 2) := by decide +kernel
theorem d_mo_lookUp_5 : decode m_mo_lookUp.2.2.1 5 = .ok (.iload 4, 2) := by decide +kernel
theorem d_mo_lookUp_7 : decode m_mo_lookUp.2.2.1 7 = .ok (.iconst 3, 1) := by decide +kernel
theorem d_mo_lookUp_8 : decode m_mo_lookUp.2.2.1 8 = .ok (.if_icmp .ge 59, 3) := by decide +kernel
theorem d_mo_lookUp_11 : decode m_mo_lookUp.2.2.1 11 = .ok (.aload_n 1, 1) := by decide +kernel
theorem d_mo_lookUp_12 : decode m_mo_lookUp.2.2.1 12 = .ok (.iload_n 2, 1) := by decide +kernel
theorem d_mo_lookUp_13 : decode m_mo_lookUp.2.2.1 13 = .ok (.iload 4, 2) := by decide +kernel
theorem d_mo_lookUp_15 : decode m_mo_lookUp.2.2.1 15 = .ok (.iadd, 1) := by decide +kernel
theorem d_mo_lookUp_16 : decode m_mo_lookUp.2.2.1 16 = .ok (.iaload, 1) := by decide +kernel
theorem d_mo_lookUp_17 : decode m_mo_lookUp.2.2.1 17 = .ok (.ifCond .le 50, 3) := by decide +kernel
theorem d_mo_lookUp_20 : decode m_mo_lookUp.2.2.1 20 = .ok (.aload_n 0, 1) := by decide +kernel
theorem d_mo_lookUp_21 : decode m_mo_lookUp.2.2.1 21 = .ok (.iload_n 3, 1) := by decide +kernel
theorem d_mo_lookUp_22 : decode m_mo_lookUp.2.2.1 22 = .ok (.aload_n 1, 1) := by decide +kernel
theorem d_mo_lookUp_23 : decode m_mo_lookUp.2.2.1 23 = .ok (.iload_n 2, 1) := by decide +kernel
theorem d_mo_lookUp_24 : decode m_mo_lookUp.2.2.1 24 = .ok (.iload 4, 2) := by decide +kernel
theorem d_mo_lookUp_26 : decode m_mo_lookUp.2.2.1 26 = .ok (.iadd, 1) := by decide +kernel
theorem d_mo_lookUp_27 : decode m_mo_lookUp.2.2.1 27 = .ok (.iaload, 1) := by decide +kernel
theorem d_mo_lookUp_28 : decode m_mo_lookUp.2.2.1 28 = .ok (.iconst 1, 1) := by decide +kernel
theorem d_mo_lookUp_29 : decode m_mo_lookUp.2.2.1 29 = .ok (.isub, 1) := by decide +kernel
theorem d_mo_lookUp_30 : decode m_mo_lookUp.2.2.1 30 = .ok (.invokevirtual 165, 3) := by decide +kernel
theorem d_mo_lookUp_33 : decode m_mo_lookUp.2.2.1 33 = .ok (.istore 5, 2) := by decide +kernel
theorem d_mo_lookUp_35 : decode m_mo_lookUp.2.2.1 35 = .ok (.iload 5, 2) := by decide +kernel
theorem d_mo_lookUp_37 : decode m_mo_lookUp.2.2.1 37 = .ok (.ifCond .lt 19, 3) := by decide +kernel
theorem d_mo_lookUp_40 : decode m_mo_lookUp.2.2.1 40 = .ok (.aload_n 0, 1) := by decide +kernel
theorem d_mo_lookUp_41 : decode m_mo_lookUp.2.2.1 41 = .ok (.getfield 46, 3) := by decide +kernel
theorem d_mo_lookUp_44 : decode m_mo_lookUp.2.2.1 44 = .ok (.iload 5, 2) := by decide +kernel
theorem d_mo_lookUp_46 : decode m_mo_lookUp.2.2.1 46 = .ok (.iaload, 1) := by decide +kernel
theorem d_mo_lookUp_47 : decode m_mo_lookUp.2.2.1 47 = .ok (.aload_n 1, 1) := by decide +kernel
theorem d_mo_lookUp_48 : decode m_mo_lookUp.2.2.1 48 = .ok (.iload_n 2, 1) := by decide +kernel
theorem d_mo_lookUp_49 : decode m_mo_lookUp.2.2.1 49 = .ok (.iload 4, 2) := by decide +kernel
theorem d_mo_lookUp_51 : decode m_mo_lookUp.2.2.1 51 = .ok (.iadd, 1) := by decide +kernel
theorem d_mo_lookUp_52 : decode m_mo_lookUp.2.2.1 52 = .ok (.iaload, 1) := by decide +kernel
theorem d_mo_lookUp_53 : decode m_mo_lookUp.2.2.1 53 = .ok (.if_icmp .eq 5, 3) := by decide +kernel
theorem d_mo_lookUp_56 : decode m_mo_lookUp.2.2.1 56 = .ok (.iconst (-1), 1) := by decide +kernel
theorem d_mo_lookUp_57 : decode m_mo_lookUp.2.2.1 57 = .ok (.ireturn, 1) := by decide +kernel
theorem d_mo_lookUp_58 : decode m_mo_lookUp.2.2.1 58 = .ok (.iload 5, 2) := by decide +kernel
theorem d_mo_lookUp_60 : decode m_mo_lookUp.2.2.1 60 = .ok (.istore_n 3, 1) := by decide +kernel
theorem d_mo_lookUp_61 : decode m_mo_lookUp.2.2.1 61 = .ok (.iinc 4 1, 3) := by decide +kernel
theorem d_mo_lookUp_64 : decode m_mo_lookUp.2.2.1 64 = .ok (.goto (-59), 3) := by decide +kernel
theorem d_mo_lookUp_67 : decode m_mo_lookUp.2.2.1 67 = .ok (.iload_n 3, 1) := by decide +kernel
theorem d_mo_lookUp_68 : decode m_mo_lookUp.2.2.1 68 = .ok (.ireturn, 1) := by decide +kernel
theorem d_mo_isBelow_0 : decode m_mo_isBelow.2.2.1 0 = .ok (.iload_n 1, 1) := by decide +kernel
theorem d_mo_isBelow_1 : decode m_mo_isBelow.2.2.1 1 = .ok (.istore_n 3, 1) := by decide +kernel
theorem d_mo_isBelow_2 : decode m_mo_isBelow.2.2.1 2 = .ok (.iload_n 3, 1) := by decide +kernel
theorem d_mo_isBelow_3 : decode m_mo_isBelow.2.2.1 3 = .ok (.ifCond .lt 18, 3) := by decide +kernel
theorem d_mo_isBelow_6 : decode m_mo_isBelow.2.2.1 6 = .ok (.iload_n 3, 1) := by decide +kernel
theorem d_mo_isBelow_7 : decode m_mo_isBelow.2.2.1 7 = .ok (.iload_n 2, 1) := by decide +kernel
theorem d_mo_isBelow_8 : decode m_mo_isBelow.2.2.1 8 = .ok (.if_icmp .eq 13, 3) := by decide +kernel
theorem d_mo_isBelow_11 : decode m_mo_isBelow.2.2.1 11 = .ok (.aload_n 0, 1) := by decide +kernel
theorem d_mo_isBelow_12 : decode m_mo_isBelow.2.2.1 12 = .ok (.getfield 40, 3) := by decide +kernel
theorem d_mo_isBelow_15 : decode m_mo_isBelow.2.2.1 15 = .ok (.iload_n 3, 1) := by decide +kernel
theorem d_mo_isBelow_16 : decode m_mo_isBelow.2.2.1 16 = .ok (.iaload, 1) := by decide +kernel
theorem d_mo_isBelow_17 : decode m_mo_isBelow.2.2.1 17 = .ok (.istore_n 3, 1) := by decide +kernel
theorem d_mo_isBelow_18 : decode m_mo_isBelow.2.2.1 18 = .ok (.goto (-16), 3) := by decide +kernel
theorem d_mo_isBelow_21 : decode m_mo_isBelow.2.2.1 21 = .ok (.iload_n 3, 1) := by decide +kernel
theorem d_mo_isBelow_22 : decode m_mo_isBelow.2.2.1 22 = .ok (.iload_n 2, 1) := by decide +kernel
theorem d_mo_isBelow_23 : decode m_mo_isBelow.2.2.1 23 = .ok (.if_icmp .ne 7, 3) := by decide +kernel
theorem d_mo_isBelow_26 : decode m_mo_isBelow.2.2.1 26 = .ok (.iconst 1, 1) := by decide +kernel
theorem d_mo_isBelow_27 : decode m_mo_isBelow.2.2.1 27 = .ok (.goto 4, 3) := by decide +kernel
theorem d_mo_isBelow_30 : decode m_mo_isBelow.2.2.1 30 = .ok (.iconst 0, 1) := by decide +kernel
theorem d_mo_isBelow_31 : decode m_mo_isBelow.2.2.1 31 = .ok (.ireturn, 1) := by decide +kernel
theorem d_mo_repeal_0 : decode m_mo_repeal.2.2.1 0 = .ok (.iconst 0, 1) := by decide +kernel
theorem d_mo_repeal_1 : decode m_mo_repeal.2.2.1 1 = .ok (.istore_n 2, 1) := by decide +kernel
theorem d_mo_repeal_2 : decode m_mo_repeal.2.2.1 2 = .ok (.iload_n 2, 1) := by decide +kernel
theorem d_mo_repeal_3 : decode m_mo_repeal.2.2.1 3 = .ok (.aload_n 0, 1) := by decide +kernel
theorem d_mo_repeal_4 : decode m_mo_repeal.2.2.1 4 = .ok (.getfield 144, 3) := by decide +kernel
theorem d_mo_repeal_7 : decode m_mo_repeal.2.2.1 7 = .ok (.if_icmp .ge 47, 3) := by decide +kernel
theorem d_mo_repeal_10 : decode m_mo_repeal.2.2.1 10 = .ok (.aload_n 0, 1) := by decide +kernel
theorem d_mo_repeal_11 : decode m_mo_repeal.2.2.1 11 = .ok (.getfield 58, 3) := by decide +kernel
theorem d_mo_repeal_14 : decode m_mo_repeal.2.2.1 14 = .ok (.iload_n 2, 1) := by decide +kernel
theorem d_mo_repeal_15 : decode m_mo_repeal.2.2.1 15 = .ok (.aload_n 0, 1) := by decide +kernel
theorem d_mo_repeal_16 : decode m_mo_repeal.2.2.1 16 = .ok (.getfield 58, 3) := by decide +kernel
theorem d_mo_repeal_19 : decode m_mo_repeal.2.2.1 19 = .ok (.iload_n 2, 1) := by decide +kernel
theorem d_mo_repeal_20 : decode m_mo_repeal.2.2.1 20 = .ok (.baload, 1) := by decide +kernel
theorem d_mo_repeal_21 : decode m_mo_repeal.2.2.1 21 = .ok (.ifCond .ne 21, 3) := by decide +kernel
theorem d_mo_repeal_24 : decode m_mo_repeal.2.2.1 24 = .ok (.aload_n 0, 1) := by decide +kernel
theorem d_mo_repeal_25 : decode m_mo_repeal.2.2.1 25 = .ok (.getfield 62, 3) := by decide +kernel
theorem d_mo_repeal_28 : decode m_mo_repeal.2.2.1 28 = .ok (.iload_n 2, 1) := by decide +kernel
theorem d_mo_repeal_29 : decode m_mo_repeal.2.2.1 29 = .ok (.baload, 1) := by decide +kernel
theorem d_mo_repeal_30 : decode m_mo_repeal.2.2.1 30 = .ok (.ifCond .eq 16, 3) := by decide +kernel
theorem d_mo_repeal_33 : decode m_mo_repeal.2.2.1 33 = .ok (.aload_n 0, 1) := by decide +kernel
theorem d_mo_repeal_34 : decode m_mo_repeal.2.2.1 34 = .ok (.iload_n 2, 1) := by decide +kernel
theorem d_mo_repeal_35 : decode m_mo_repeal.2.2.1 35 = .ok (.iload_n 1, 1) := by decide +kernel
theorem d_mo_repeal_36 : decode m_mo_repeal.2.2.1 36 = .ok (.invokevirtual 282, 3) := by decide +kernel
theorem d_mo_repeal_39 : decode m_mo_repeal.2.2.1 39 = .ok (.ifCond .eq 7, 3) := by decide +kernel
theorem d_mo_repeal_42 : decode m_mo_repeal.2.2.1 42 = .ok (.iconst 1, 1) := by decide +kernel
theorem d_mo_repeal_43 : decode m_mo_repeal.2.2.1 43 = .ok (.goto 4, 3) := by decide +kernel
theorem d_mo_repeal_46 : decode m_mo_repeal.2.2.1 46 = .ok (.iconst 0, 1) := by decide +kernel
theorem d_mo_repeal_47 : decode m_mo_repeal.2.2.1 47 = .ok (.bastore, 1) := by decide +kernel
theorem d_mo_repeal_48 : decode m_mo_repeal.2.2.1 48 = .ok (.iinc 2 1, 3) := by decide +kernel
theorem d_mo_repeal_51 : decode m_mo_repeal.2.2.1 51 = .ok (.goto (-49), 3) := by decide +kernel
theorem d_mo_repeal_54 : decode m_mo_repeal.2.2.1 54 = .ok (.return_, 1) := by decide +kernel
theorem d_mo_renumber_0 : decode m_mo_renumber.2.2.1 0 = .ok (.iconst 0, 1) := by decide +kernel
theorem d_mo_renumber_1 : decode m_mo_renumber.2.2.1 1 = .ok (.istore_n 2, 1) := by decide +kernel
theorem d_mo_renumber_2 : decode m_mo_renumber.2.2.1 2 = .ok (.iload_n 2, 1) := by decide +kernel
theorem d_mo_renumber_3 : decode m_mo_renumber.2.2.1 3 = .ok (.aload_n 0, 1) := by decide +kernel
theorem d_mo_renumber_4 : decode m_mo_renumber.2.2.1 4 = .ok (.getfield 144, 3) := by decide +kernel
theorem d_mo_renumber_7 : decode m_mo_renumber.2.2.1 7 = .ok (.if_icmp .ge 42, 3) := by decide +kernel
theorem d_mo_renumber_10 : decode m_mo_renumber.2.2.1 10 = .ok (.aload_n 0, 1) := by decide +kernel
theorem d_mo_renumber_11 : decode m_mo_renumber.2.2.1 11 = .ok (.getfield 62, 3) := by decide +kernel
theorem d_mo_renumber_14 : decode m_mo_renumber.2.2.1 14 = .ok (.iload_n 2, 1) := by decide +kernel
theorem d_mo_renumber_15 : decode m_mo_renumber.2.2.1 15 = .ok (.baload, 1) := by decide +kernel
theorem d_mo_renumber_16 : decode m_mo_renumber.2.2.1 16 = .ok (.ifCond .eq 27, 3) := by decide +kernel
theorem d_mo_renumber_19 : decode m_mo_renumber.2.2.1 19 = .ok (.aload_n 0, 1) := by decide +kernel
theorem d_mo_renumber_20 : decode m_mo_renumber.2.2.1 20 = .ok (.getfield 40, 3) := by decide +kernel
theorem d_mo_renumber_23 : decode m_mo_renumber.2.2.1 23 = .ok (.iload_n 2, 1) := by decide +kernel
theorem d_mo_renumber_24 : decode m_mo_renumber.2.2.1 24 = .ok (.iaload, 1) := by decide +kernel
theorem d_mo_renumber_25 : decode m_mo_renumber.2.2.1 25 = .ok (.iload_n 1, 1) := by decide +kernel
theorem d_mo_renumber_26 : decode m_mo_renumber.2.2.1 26 = .ok (.if_icmp .ne 17, 3) := by decide +kernel
theorem d_mo_renumber_29 : decode m_mo_renumber.2.2.1 29 = .ok (.aload_n 0, 1) := by decide +kernel
theorem d_mo_renumber_30 : decode m_mo_renumber.2.2.1 30 = .ok (.getfield 58, 3) := by decide +kernel
theorem d_mo_renumber_33 : decode m_mo_renumber.2.2.1 33 = .ok (.iload_n 2, 1) := by decide +kernel
theorem d_mo_renumber_34 : decode m_mo_renumber.2.2.1 34 = .ok (.baload, 1) := by decide +kernel
theorem d_mo_renumber_35 : decode m_mo_renumber.2.2.1 35 = .ok (.ifCond .eq 8, 3) := by decide +kernel
theorem d_mo_renumber_38 : decode m_mo_renumber.2.2.1 38 = .ok (.aload_n 0, 1) := by decide +kernel
theorem d_mo_renumber_39 : decode m_mo_renumber.2.2.1 39 = .ok (.iload_n 2, 1) := by decide +kernel
theorem d_mo_renumber_40 : decode m_mo_renumber.2.2.1 40 = .ok (.invokevirtual 285, 3) := by decide +kernel
theorem d_mo_renumber_43 : decode m_mo_renumber.2.2.1 43 = .ok (.iinc 2 1, 3) := by decide +kernel
theorem d_mo_renumber_46 : decode m_mo_renumber.2.2.1 46 = .ok (.goto (-44), 3) := by decide +kernel
theorem d_mo_renumber_49 : decode m_mo_renumber.2.2.1 49 = .ok (.iconst 0, 1) := by decide +kernel
theorem d_mo_renumber_50 : decode m_mo_renumber.2.2.1 50 = .ok (.istore_n 2, 1) := by decide +kernel
theorem d_mo_renumber_51 : decode m_mo_renumber.2.2.1 51 = .ok (.aload_n 0, 1) := by decide +kernel
theorem d_mo_renumber_52 : decode m_mo_renumber.2.2.1 52 = .ok (.iload_n 1, 1) := by decide +kernel
theorem d_mo_renumber_53 : decode m_mo_renumber.2.2.1 53 = .ok (.iconst 0, 1) := by decide +kernel
theorem d_mo_renumber_54 : decode m_mo_renumber.2.2.1 54 = .ok (.invokevirtual 165, 3) := by decide +kernel
theorem d_mo_renumber_57 : decode m_mo_renumber.2.2.1 57 = .ok (.istore_n 3, 1) := by decide +kernel
theorem d_mo_renumber_58 : decode m_mo_renumber.2.2.1 58 = .ok (.iload_n 3, 1) := by decide +kernel
theorem d_mo_renumber_59 : decode m_mo_renumber.2.2.1 59 = .ok (.ifCond .lt 28, 3) := by decide +kernel
theorem d_mo_renumber_62 : decode m_mo_renumber.2.2.1 62 = .ok (.aload_n 0, 1) := by decide +kernel
theorem d_mo_renumber_63 : decode m_mo_renumber.2.2.1 63 = .ok (.getfield 80, 3) := by decide +kernel
theorem d_mo_renumber_66 : decode m_mo_renumber.2.2.1 66 = .ok (.iload_n 2, 1) := by decide +kernel
theorem d_mo_renumber_67 : decode m_mo_renumber.2.2.1 67 = .ok (.iload_n 3, 1) := by decide +kernel
theorem d_mo_renumber_68 : decode m_mo_renumber.2.2.1 68 = .ok (.iastore, 1) := by decide +kernel
theorem d_mo_renumber_69 : decode m_mo_renumber.2.2.1 69 = .ok (.iinc 2 1, 3) := by decide +kernel
theorem d_mo_renumber_72 : decode m_mo_renumber.2.2.1 72 = .ok (.aload_n 0, 1) := by decide +kernel
theorem d_mo_renumber_73 : decode m_mo_renumber.2.2.1 73 = .ok (.iload_n 1, 1) := by decide +kernel
theorem d_mo_renumber_74 : decode m_mo_renumber.2.2.1 74 = .ok (.aload_n 0, 1) := by decide +kernel
theorem d_mo_renumber_75 : decode m_mo_renumber.2.2.1 75 = .ok (.getfield 46, 3) := by decide +kernel
theorem d_mo_renumber_78 : decode m_mo_renumber.2.2.1 78 = .ok (.iload_n 3, 1) := by decide +kernel
theorem d_mo_renumber_79 : decode m_mo_renumber.2.2.1 79 = .ok (.iaload, 1) := by decide +kernel
theorem d_mo_renumber_80 : decode m_mo_renumber.2.2.1 80 = .ok (.invokevirtual 165, 3) := by decide +kernel
theorem d_mo_renumber_83 : decode m_mo_renumber.2.2.1 83 = .ok (.istore_n 3, 1) := by decide +kernel
theorem d_mo_renumber_84 : decode m_mo_renumber.2.2.1 84 = .ok (.goto (-26), 3) := by decide +kernel
theorem d_mo_renumber_87 : decode m_mo_renumber.2.2.1 87 = .ok (.iconst 0, 1) := by decide +kernel
theorem d_mo_renumber_88 : decode m_mo_renumber.2.2.1 88 = .ok (.istore_n 3, 1) := by decide +kernel
theorem d_mo_renumber_89 : decode m_mo_renumber.2.2.1 89 = .ok (.iload_n 3, 1) := by decide +kernel
theorem d_mo_renumber_90 : decode m_mo_renumber.2.2.1 90 = .ok (.iload_n 2, 1) := by decide +kernel
theorem d_mo_renumber_91 : decode m_mo_renumber.2.2.1 91 = .ok (.if_icmp .ge 27, 3) := by decide +kernel
theorem d_mo_renumber_94 : decode m_mo_renumber.2.2.1 94 = .ok (.aload_n 0, 1) := by decide +kernel
theorem d_mo_renumber_95 : decode m_mo_renumber.2.2.1 95 = .ok (.getfield 46, 3) := by decide +kernel
theorem d_mo_renumber_98 : decode m_mo_renumber.2.2.1 98 = .ok (.aload_n 0, 1) := by decide +kernel
theorem d_mo_renumber_99 : decode m_mo_renumber.2.2.1 99 = .ok (.getfield 80, 3) := by decide +kernel
theorem d_mo_renumber_102 : decode m_mo_renumber.2.2.1 102 = .ok (.iload_n 3, 1) := by decide +kernel
theorem d_mo_renumber_103 : decode m_mo_renumber.2.2.1 103 = .ok (.iaload, 1) := by decide +kernel
theorem d_mo_renumber_104 : decode m_mo_renumber.2.2.1 104 = .ok (.iload_n 3, 1) := by decide +kernel
theorem d_mo_renumber_105 : decode m_mo_renumber.2.2.1 105 = .ok (.iconst 1, 1) := by decide +kernel
theorem d_mo_renumber_106 : decode m_mo_renumber.2.2.1 106 = .ok (.iadd, 1) := by decide +kernel
theorem d_mo_renumber_107 : decode m_mo_renumber.2.2.1 107 = .ok (.sipush 19683, 3) := by decide +kernel
theorem d_mo_renumber_110 : decode m_mo_renumber.2.2.1 110 = .ok (.imul, 1) := by decide +kernel
theorem d_mo_renumber_111 : decode m_mo_renumber.2.2.1 111 = .ok (.iastore, 1) := by decide +kernel
theorem d_mo_renumber_112 : decode m_mo_renumber.2.2.1 112 = .ok (.iinc 3 1, 3) := by decide +kernel
theorem d_mo_renumber_115 : decode m_mo_renumber.2.2.1 115 = .ok (.goto (-26), 3) := by decide +kernel
theorem d_mo_renumber_118 : decode m_mo_renumber.2.2.1 118 = .ok (.return_, 1) := by decide +kernel
theorem d_mo_remove_0 : decode m_mo_remove.2.2.1 0 = .ok (.iconst 0, 1) := by decide +kernel
theorem d_mo_remove_1 : decode m_mo_remove.2.2.1 1 = .ok (.istore_n 2, 1) := by decide +kernel
theorem d_mo_remove_2 : decode m_mo_remove.2.2.1 2 = .ok (.iload_n 2, 1) := by decide +kernel
theorem d_mo_remove_3 : decode m_mo_remove.2.2.1 3 = .ok (.aload_n 0, 1) := by decide +kernel
theorem d_mo_remove_4 : decode m_mo_remove.2.2.1 4 = .ok (.getfield 144, 3) := by decide +kernel
theorem d_mo_remove_7 : decode m_mo_remove.2.2.1 7 = .ok (.if_icmp .ge 44, 3) := by decide +kernel
theorem d_mo_remove_10 : decode m_mo_remove.2.2.1 10 = .ok (.aload_n 0, 1) := by decide +kernel
theorem d_mo_remove_11 : decode m_mo_remove.2.2.1 11 = .ok (.getfield 62, 3) := by decide +kernel
theorem d_mo_remove_14 : decode m_mo_remove.2.2.1 14 = .ok (.iload_n 2, 1) := by decide +kernel
theorem d_mo_remove_15 : decode m_mo_remove.2.2.1 15 = .ok (.baload, 1) := by decide +kernel
theorem d_mo_remove_16 : decode m_mo_remove.2.2.1 16 = .ok (.ifCond .eq 29, 3) := by decide +kernel
