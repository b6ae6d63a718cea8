theorem d_mo_remove_19 : decode m_mo_remove.2.2.1 19 = .ok (.aload_n 0, 1) := by decide +kernel
theorem d_mo_remove_20 : decode m_mo_remove.2.2.1 20 = .ok (.iload_n 2, 1) := by decide +kernel
theorem d_mo_remove_21 : decode m_mo_remove.2.2.1 21 = .ok (.iload_n 1, 1) := by decide +kernel
theorem d_mo_remove_22 : decode m_mo_remove.2.2.1 22 = .ok (.invokevirtual 282, 3) := by decide +kernel
theorem d_mo_remove_25 : decode m_mo_remove.2.2.1 25 = .ok (.ifCond .eq 20, 3) := by decide +kernel
theorem d_mo_remove_28 : decode m_mo_remove.2.2.1 28 = .ok (.aload_n 0, 1) := by decide +kernel
theorem d_mo_remove_29 : decode m_mo_remove.2.2.1 29 = .ok (.getfield 62, 3) := by decide +kernel
theorem d_mo_remove_32 : decode m_mo_remove.2.2.1 32 = .ok (.iload_n 2, 1) := by decide +kernel
theorem d_mo_remove_33 : decode m_mo_remove.2.2.1 33 = .ok (.iconst 0, 1) := by decide +kernel
theorem d_mo_remove_34 : decode m_mo_remove.2.2.1 34 = .ok (.bastore, 1) := by decide +kernel
theorem d_mo_remove_35 : decode m_mo_remove.2.2.1 35 = .ok (.aload_n 0, 1) := by decide +kernel
theorem d_mo_remove_36 : decode m_mo_remove.2.2.1 36 = .ok (.dup, 1) := by decide +kernel
theorem d_mo_remove_37 : decode m_mo_remove.2.2.1 37 = .ok (.getfield 148, 3) := by decide +kernel
theorem d_mo_remove_40 : decode m_mo_remove.2.2.1 40 = .ok (.iconst 1, 1) := by decide +kernel
theorem d_mo_remove_41 : decode m_mo_remove.2.2.1 41 = .ok (.isub, 1) := by decide +kernel
theorem d_mo_remove_42 : decode m_mo_remove.2.2.1 42 = .ok (.putfield 148, 3) := by decide +kernel
theorem d_mo_remove_45 : decode m_mo_remove.2.2.1 45 = .ok (.iinc 2 1, 3) := by decide +kernel
theorem d_mo_remove_48 : decode m_mo_remove.2.2.1 48 = .ok (.goto (-46), 3) := by decide +kernel
theorem d_mo_remove_51 : decode m_mo_remove.2.2.1 51 = .ok (.return_, 1) := by decide +kernel
theorem d_mo_apply_0 : decode m_mo_apply.2.2.1 0 = .ok (.aload_n 0, 1) := by decide +kernel
theorem d_mo_apply_1 : decode m_mo_apply.2.2.1 1 = .ok (.getfield 31, 3) := by decide +kernel
theorem d_mo_apply_4 : decode m_mo_apply.2.2.1 4 = .ok (.iload_n 1, 1) := by decide +kernel
theorem d_mo_apply_5 : decode m_mo_apply.2.2.1 5 = .ok (.iaload, 1) := by decide +kernel
theorem d_mo_apply_6 : decode m_mo_apply.2.2.1 6 = .ok (.istore_n 3, 1) := by decide +kernel
theorem d_mo_apply_7 : decode m_mo_apply.2.2.1 7 = .ok (.aload_n 0, 1) := by decide +kernel
theorem d_mo_apply_8 : decode m_mo_apply.2.2.1 8 = .ok (.aload_n 0, 1) := by decide +kernel
theorem d_mo_apply_9 : decode m_mo_apply.2.2.1 9 = .ok (.getfield 37, 3) := by decide +kernel
theorem d_mo_apply_12 : decode m_mo_apply.2.2.1 12 = .ok (.bipush 6, 2) := by decide +kernel
theorem d_mo_apply_14 : decode m_mo_apply.2.2.1 14 = .ok (.iload_n 1, 1) := by decide +kernel
theorem d_mo_apply_15 : decode m_mo_apply.2.2.1 15 = .ok (.imul, 1) := by decide +kernel
theorem d_mo_apply_16 : decode m_mo_apply.2.2.1 16 = .ok (.invokevirtual 288, 3) := by decide +kernel
theorem d_mo_apply_19 : decode m_mo_apply.2.2.1 19 = .ok (.istore 4, 2) := by decide +kernel
theorem d_mo_apply_21 : decode m_mo_apply.2.2.1 21 = .ok (.iload_n 3, 1) := by decide +kernel
theorem d_mo_apply_22 : decode m_mo_apply.2.2.1 22 = .ok (.iconst 4, 1) := by decide +kernel
theorem d_mo_apply_23 : decode m_mo_apply.2.2.1 23 = .ok (.if_icmp .ne 20, 3) := by decide +kernel
theorem d_mo_apply_26 : decode m_mo_apply.2.2.1 26 = .ok (.aload_n 0, 1) := by decide +kernel
theorem d_mo_apply_27 : decode m_mo_apply.2.2.1 27 = .ok (.aload_n 0, 1) := by decide +kernel
theorem d_mo_apply_28 : decode m_mo_apply.2.2.1 28 = .ok (.getfield 37, 3) := by decide +kernel
theorem d_mo_apply_31 : decode m_mo_apply.2.2.1 31 = .ok (.bipush 6, 2) := by decide +kernel
theorem d_mo_apply_33 : decode m_mo_apply.2.2.1 33 = .ok (.iload_n 1, 1) := by decide +kernel
theorem d_mo_apply_34 : decode m_mo_apply.2.2.1 34 = .ok (.imul, 1) := by decide +kernel
theorem d_mo_apply_35 : decode m_mo_apply.2.2.1 35 = .ok (.iconst 3, 1) := by decide +kernel
theorem d_mo_apply_36 : decode m_mo_apply.2.2.1 36 = .ok (.iadd, 1) := by decide +kernel
theorem d_mo_apply_37 : decode m_mo_apply.2.2.1 37 = .ok (.invokevirtual 288, 3) := by decide +kernel
theorem d_mo_apply_40 : decode m_mo_apply.2.2.1 40 = .ok (.goto 5, 3) := by decide +kernel
theorem d_mo_apply_43 : decode m_mo_apply.2.2.1 43 = .ok (.iload 4, 2) := by decide +kernel
theorem d_mo_apply_45 : decode m_mo_apply.2.2.1 45 = .ok (.istore 5, 2) := by decide +kernel
theorem d_mo_apply_47 : decode m_mo_apply.2.2.1 47 = .ok (.iload 4, 2) := by decide +kernel
theorem d_mo_apply_49 : decode m_mo_apply.2.2.1 49 = .ok (.ifCond .lt 8, 3) := by decide +kernel
theorem d_mo_apply_52 : decode m_mo_apply.2.2.1 52 = .ok (.iload 5, 2) := by decide +kernel
theorem d_mo_apply_54 : decode m_mo_apply.2.2.1 54 = .ok (.ifCond .ge 5, 3) := by decide +kernel
theorem d_mo_apply_57 : decode m_mo_apply.2.2.1 57 = .ok (.iconst 1, 1) := by decide +kernel
theorem d_mo_apply_58 : decode m_mo_apply.2.2.1 58 = .ok (.ireturn, 1) := by decide +kernel
theorem d_mo_apply_59 : decode m_mo_apply.2.2.1 59 = .ok (.aload_n 0, 1) := by decide +kernel
theorem d_mo_apply_60 : decode m_mo_apply.2.2.1 60 = .ok (.getfield 58, 3) := by decide +kernel
theorem d_mo_apply_63 : decode m_mo_apply.2.2.1 63 = .ok (.iload 4, 2) := by decide +kernel
theorem d_mo_apply_65 : decode m_mo_apply.2.2.1 65 = .ok (.baload, 1) := by decide +kernel
theorem d_mo_apply_66 : decode m_mo_apply.2.2.1 66 = .ok (.ifCond .ne 13, 3) := by decide +kernel
theorem d_mo_apply_69 : decode m_mo_apply.2.2.1 69 = .ok (.aload_n 0, 1) := by decide +kernel
theorem d_mo_apply_70 : decode m_mo_apply.2.2.1 70 = .ok (.getfield 58, 3) := by decide +kernel
theorem d_mo_apply_73 : decode m_mo_apply.2.2.1 73 = .ok (.iload 5, 2) := by decide +kernel
theorem d_mo_apply_75 : decode m_mo_apply.2.2.1 75 = .ok (.baload, 1) := by decide +kernel
theorem d_mo_apply_76 : decode m_mo_apply.2.2.1 76 = .ok (.ifCond .eq 5, 3) := by decide +kernel
theorem d_mo_apply_79 : decode m_mo_apply.2.2.1 79 = .ok (.iconst 2, 1) := by decide +kernel
theorem d_mo_apply_80 : decode m_mo_apply.2.2.1 80 = .ok (.ireturn, 1) := by decide +kernel
theorem d_mo_apply_81 : decode m_mo_apply.2.2.1 81 = .ok (.iload_n 3, 1) := by decide +kernel
theorem d_mo_apply_82 : decode m_mo_apply.2.2.1 82 = .ok (.iconst 1, 1) := by decide +kernel
theorem d_mo_apply_83 : decode m_mo_apply.2.2.1 83 = .ok (.if_icmp .ne 14, 3) := by decide +kernel
theorem d_mo_apply_86 : decode m_mo_apply.2.2.1 86 = .ok (.aload_n 0, 1) := by decide +kernel
theorem d_mo_apply_87 : decode m_mo_apply.2.2.1 87 = .ok (.getfield 43, 3) := by decide +kernel
theorem d_mo_apply_90 : decode m_mo_apply.2.2.1 90 = .ok (.iload 4, 2) := by decide +kernel
theorem d_mo_apply_92 : decode m_mo_apply.2.2.1 92 = .ok (.iaload, 1) := by decide +kernel
theorem d_mo_apply_93 : decode m_mo_apply.2.2.1 93 = .ok (.iconst 3, 1) := by decide +kernel
theorem d_mo_apply_94 : decode m_mo_apply.2.2.1 94 = .ok (.if_icmp .eq 32, 3) := by decide +kernel
theorem d_mo_apply_97 : decode m_mo_apply.2.2.1 97 = .ok (.iload_n 3, 1) := by decide +kernel
theorem d_mo_apply_98 : decode m_mo_apply.2.2.1 98 = .ok (.iconst 4, 1) := by decide +kernel
theorem d_mo_apply_99 : decode m_mo_apply.2.2.1 99 = .ok (.if_icmp .ne 29, 3) := by decide +kernel
theorem d_mo_apply_102 : decode m_mo_apply.2.2.1 102 = .ok (.aload_n 0, 1) := by decide +kernel
theorem d_mo_apply_103 : decode m_mo_apply.2.2.1 103 = .ok (.getfield 43, 3) := by decide +kernel
theorem d_mo_apply_106 : decode m_mo_apply.2.2.1 106 = .ok (.iload 4, 2) := by decide +kernel
theorem d_mo_apply_108 : decode m_mo_apply.2.2.1 108 = .ok (.iaload, 1) := by decide +kernel
theorem d_mo_apply_109 : decode m_mo_apply.2.2.1 109 = .ok (.aload_n 0, 1) := by decide +kernel
theorem d_mo_apply_110 : decode m_mo_apply.2.2.1 110 = .ok (.getfield 43, 3) := by decide +kernel
theorem d_mo_apply_113 : decode m_mo_apply.2.2.1 113 = .ok (.iload 5, 2) := by decide +kernel
theorem d_mo_apply_115 : decode m_mo_apply.2.2.1 115 = .ok (.iaload, 1) := by decide +kernel
theorem d_mo_apply_116 : decode m_mo_apply.2.2.1 116 = .ok (.if_icmp .ne 10, 3) := by decide +kernel
theorem d_mo_apply_119 : decode m_mo_apply.2.2.1 119 = .ok (.iload 4, 2) := by decide +kernel
theorem d_mo_apply_121 : decode m_mo_apply.2.2.1 121 = .ok (.iload 5, 2) := by decide +kernel
theorem d_mo_apply_123 : decode m_mo_apply.2.2.1 123 = .ok (.if_icmp .ne 5, 3) := by decide +kernel
theorem d_mo_apply_126 : decode m_mo_apply.2.2.1 126 = .ok (.iconst 3, 1) := by decide +kernel
theorem d_mo_apply_127 : decode m_mo_apply.2.2.1 127 = .ok (.ireturn, 1) := by decide +kernel
theorem d_mo_apply_128 : decode m_mo_apply.2.2.1 128 = .ok (.iload_n 3, 1) := by decide +kernel
theorem d_mo_apply_129 : decode m_mo_apply.2.2.1 129 = .ok (.iconst 1, 1) := by decide +kernel
theorem d_mo_apply_130 : decode m_mo_apply.2.2.1 130 = .ok (.if_icmp .gt 14, 3) := by decide +kernel
theorem d_mo_apply_133 : decode m_mo_apply.2.2.1 133 = .ok (.aload_n 0, 1) := by decide +kernel
theorem d_mo_apply_134 : decode m_mo_apply.2.2.1 134 = .ok (.getfield 148, 3) := by decide +kernel
theorem d_mo_apply_137 : decode m_mo_apply.2.2.1 137 = .ok (.bipush 60, 2) := by decide +kernel
theorem d_mo_apply_139 : decode m_mo_apply.2.2.1 139 = .ok (.if_icmp .ne 5, 3) := by decide +kernel
theorem d_mo_apply_142 : decode m_mo_apply.2.2.1 142 = .ok (.iconst 4, 1) := by decide +kernel
theorem d_mo_apply_143 : decode m_mo_apply.2.2.1 143 = .ok (.ireturn, 1) := by decide +kernel
theorem d_mo_apply_144 : decode m_mo_apply.2.2.1 144 = .ok (.iload_n 3, 1) := by decide +kernel
theorem d_mo_apply_145 : decode m_mo_apply.2.2.1 145 = .ok (.iconst 2, 1) := by decide +kernel
theorem d_mo_apply_146 : decode m_mo_apply.2.2.1 146 = .ok (.if_icmp .ne 19, 3) := by decide +kernel
theorem d_mo_apply_149 : decode m_mo_apply.2.2.1 149 = .ok (.aload_n 0, 1) := by decide +kernel
theorem d_mo_apply_150 : decode m_mo_apply.2.2.1 150 = .ok (.getfield 49, 3) := by decide +kernel
theorem d_mo_apply_153 : decode m_mo_apply.2.2.1 153 = .ok (.iload 4, 2) := by decide +kernel
theorem d_mo_apply_155 : decode m_mo_apply.2.2.1 155 = .ok (.aload_n 0, 1) := by decide +kernel
theorem d_mo_apply_156 : decode m_mo_apply.2.2.1 156 = .ok (.getfield 34, 3) := by decide +kernel
theorem d_mo_apply_159 : decode m_mo_apply.2.2.1 159 = .ok (.iload_n 1, 1) := by decide +kernel
theorem d_mo_apply_160 : decode m_mo_apply.2.2.1 160 = .ok (.iaload, 1) := by decide +kernel
theorem d_mo_apply_161 : decode m_mo_apply.2.2.1 161 = .ok (.iastore, 1) := by decide +kernel
theorem d_mo_apply_162 : decode m_mo_apply.2.2.1 162 = .ok (.goto 132, 3) := by decide +kernel
theorem d_mo_apply_165 : decode m_mo_apply.2.2.1 165 = .ok (.iload_n 3, 1) := by decide +kernel
theorem d_mo_apply_166 : decode m_mo_apply.2.2.1 166 = .ok (.iconst 3, 1) := by decide +kernel
theorem d_mo_apply_167 : decode m_mo_apply.2.2.1 167 = .ok (.if_icmp .ne 12, 3) := by decide +kernel
theorem d_mo_apply_170 : decode m_mo_apply.2.2.1 170 = .ok (.aload_n 0, 1) := by decide +kernel
theorem d_mo_apply_171 : decode m_mo_apply.2.2.1 171 = .ok (.iload 4, 2) := by decide +kernel
theorem d_mo_apply_173 : decode m_mo_apply.2.2.1 173 = .ok (.invokevirtual 292, 3) := by decide +kernel
theorem d_mo_apply_176 : decode m_mo_apply.2.2.1 176 = .ok (.goto 118, 3) := by decide +kernel
theorem d_mo_apply_179 : decode m_mo_apply.2.2.1 179 = .ok (.iload_n 3, 1) := by decide +kernel
theorem d_mo_apply_180 : decode m_mo_apply.2.2.1 180 = .ok (.iconst 5, 1) := by decide +kernel
theorem d_mo_apply_181 : decode m_mo_apply.2.2.1 181 = .ok (.if_icmp .ne 12, 3) := by decide +kernel
theorem d_mo_apply_184 : decode m_mo_apply.2.2.1 184 = .ok (.aload_n 0, 1) := by decide +kernel
theorem d_mo_apply_185 : decode m_mo_apply.2.2.1 185 = .ok (.iload 4, 2) := by decide +kernel
theorem d_mo_apply_187 : decode m_mo_apply.2.2.1 187 = .ok (.invokevirtual 295, 3) := by decide +kernel
theorem d_mo_apply_190 : decode m_mo_apply.2.2.1 190 = .ok (.goto 104, 3) := by decide +kernel
theorem d_mo_apply_193 : decode m_mo_apply.2.2.1 193 = .ok (.iload_n 3, 1) := by decide +kernel
theorem d_mo_apply_194 : decode m_mo_apply.2.2.1 194 = .ok (.iconst 4, 1) := by decide +kernel
theorem d_mo_apply_195 : decode m_mo_apply.2.2.1 195 = .ok (.if_icmp .ne 12, 3) := by decide +kernel
theorem d_mo_apply_198 : decode m_mo_apply.2.2.1 198 = .ok (.aload_n 0, 1) := by decide +kernel
theorem d_mo_apply_199 : decode m_mo_apply.2.2.1 199 = .ok (.iload 4, 2) := by decide +kernel
theorem d_mo_apply_201 : decode m_mo_apply.2.2.1 201 = .ok (.iload 5, 2) := by decide +kernel
theorem d_mo_apply_203 : decode m_mo_apply.2.2.1 203 = .ok (.invokevirtual 298, 3) := by decide +kernel
theorem d_mo_apply_206 : decode m_mo_apply.2.2.1 206 = .ok (.ireturn, 1) := by decide +kernel
theorem d_mo_apply_207 : decode m_mo_apply.2.2.1 207 = .ok (.iload_n 3, 1) := by decide +kernel
theorem d_mo_apply_208 : decode m_mo_apply.2.2.1 208 = .ok (.iconst 1, 1) := by decide +kernel
theorem d_mo_apply_209 : decode m_mo_apply.2.2.1 209 = .ok (.if_icmp .ne 12, 3) := by decide +kernel
theorem d_mo_apply_212 : decode m_mo_apply.2.2.1 212 = .ok (.aload_n 0, 1) := by decide +kernel
theorem d_mo_apply_213 : decode m_mo_apply.2.2.1 213 = .ok (.iload 4, 2) := by decide +kernel
theorem d_mo_apply_215 : decode m_mo_apply.2.2.1 215 = .ok (.invokevirtual 199, 3) := by decide +kernel
theorem d_mo_apply_218 : decode m_mo_apply.2.2.1 218 = .ok (.goto 9, 3) := by decide +kernel
theorem d_mo_apply_221 : decode m_mo_apply.2.2.1 221 = .ok (.aload_n 0, 1) := by decide +kernel
theorem d_mo_apply_222 : decode m_mo_apply.2.2.1 222 = .ok (.iload 4, 2) := by decide +kernel
theorem d_mo_apply_224 : decode m_mo_apply.2.2.1 224 = .ok (.invokevirtual 206, 3) := by decide +kernel
theorem d_mo_apply_227 : decode m_mo_apply.2.2.1 227 = .ok (.istore 6, 2) := by decide +kernel
theorem d_mo_apply_229 : decode m_mo_apply.2.2.1 229 = .ok (.iload 6, 2) := by decide +kernel
theorem d_mo_apply_231 : decode m_mo_apply.2.2.1 231 = .ok (.ifCond .ge 5, 3) := by decide +kernel
theorem d_mo_apply_234 : decode m_mo_apply.2.2.1 234 = .ok (.iconst 5, 1) := by decide +kernel
theorem d_mo_apply_235 : decode m_mo_apply.2.2.1 235 = .ok (.ireturn, 1) := by decide +kernel
theorem d_mo_apply_236 : decode m_mo_apply.2.2.1 236 = .ok (.aload_n 0, 1) := by decide +kernel
theorem d_mo_apply_237 : decode m_mo_apply.2.2.1 237 = .ok (.iload_n 3, 1) := by decide +kernel
theorem d_mo_apply_238 : decode m_mo_apply.2.2.1 238 = .ok (.iconst 1, 1) := by decide +kernel
theorem d_mo_apply_239 : decode m_mo_apply.2.2.1 239 = .ok (.if_icmp .ne 8, 3) := by decide +kernel
theorem d_mo_apply_242 : decode m_mo_apply.2.2.1 242 = .ok (.iload 4, 2) := by decide +kernel
theorem d_mo_apply_244 : decode m_mo_apply.2.2.1 244 = .ok (.goto 10, 3) := by decide +kernel
theorem d_mo_apply_247 : decode m_mo_apply.2.2.1 247 = .ok (.aload_n 0, 1) := by decide +kernel
theorem d_mo_apply_248 : decode m_mo_apply.2.2.1 248 = .ok (.getfield 40, 3) := by decide +kernel
theorem d_mo_apply_251 : decode m_mo_apply.2.2.1 251 = .ok (.iload 4, 2) := by decide +kernel
theorem d_mo_apply_253 : decode m_mo_apply.2.2.1 253 = .ok (.iaload, 1) := by decide +kernel
theorem d_mo_apply_254 : decode m_mo_apply.2.2.1 254 = .ok (.iload_n 3, 1) := by decide +kernel
theorem d_mo_apply_255 : decode m_mo_apply.2.2.1 255 = .ok (.iconst 1, 1) := by decide +kernel
theorem d_mo_apply_256 : decode m_mo_apply.2.2.1 256 = .ok (.if_icmp .ne 15, 3) := by decide +kernel
theorem d_mo_apply_259 : decode m_mo_apply.2.2.1 259 = .ok (.aload_n 0, 1) := by decide +kernel
theorem d_mo_apply_260 : decode m_mo_apply.2.2.1 260 = .ok (.getfield 43, 3) := by decide +kernel
theorem d_mo_apply_263 : decode m_mo_apply.2.2.1 263 = .ok (.iload 4, 2) := by decide +kernel
theorem d_mo_apply_265 : decode m_mo_apply.2.2.1 265 = .ok (.iaload, 1) := by decide +kernel
theorem d_mo_apply_266 : decode m_mo_apply.2.2.1 266 = .ok (.iconst 1, 1) := by decide +kernel
theorem d_mo_apply_267 : decode m_mo_apply.2.2.1 267 = .ok (.iadd, 1) := by decide +kernel
theorem d_mo_apply_268 : decode m_mo_apply.2.2.1 268 = .ok (.goto 10, 3) := by decide +kernel
theorem d_mo_apply_271 : decode m_mo_apply.2.2.1 271 = .ok (.aload_n 0, 1) := by decide +kernel
theorem d_mo_apply_272 : decode m_mo_apply.2.2.1 272 = .ok (.getfield 43, 3) := by decide +kernel
theorem d_mo_apply_275 : decode m_mo_apply.2.2.1 275 = .ok (.iload 4, 2) := by decide +kernel
theorem d_mo_apply_277 : decode m_mo_apply.2.2.1 277 = .ok (.iaload, 1) := by decide +kernel
theorem d_mo_apply_278 : decode m_mo_apply.2.2.1 278 = .ok (.iload 6, 2) := by decide +kernel
theorem d_mo_apply_280 : decode m_mo_apply.2.2.1 280 = .ok (.aload_n 0, 1) := by decide +kernel
theorem d_mo_apply_281 : decode m_mo_apply.2.2.1 281 = .ok (.getfield 34, 3) := by decide +kernel
theorem d_mo_apply_284 : decode m_mo_apply.2.2.1 284 = .ok (.iload_n 1, 1) := by decide +kernel
theorem d_mo_apply_285 : decode m_mo_apply.2.2.1 285 = .ok (.iaload, 1) := by decide +kernel
theorem d_mo_apply_286 : decode m_mo_apply.2.2.1 286 = .ok (.bipush (-9), 2) := by decide +kernel
theorem d_mo_apply_288 : decode m_mo_apply.2.2.1 288 = .ok (.iload_n 2, 1) := by decide +kernel
theorem d_mo_apply_289 : decode m_mo_apply.2.2.1 289 = .ok (.invokevirtual 161, 3) := by decide +kernel
theorem d_mo_apply_292 : decode m_mo_apply.2.2.1 292 = .ok (.istore 7, 2) := by decide +kernel
theorem d_mo_apply_294 : decode m_mo_apply.2.2.1 294 = .ok (.iconst 0, 1) := by decide +kernel
theorem d_mo_apply_295 : decode m_mo_apply.2.2.1 295 = .ok (.ireturn, 1) := by decide +kernel
theorem d_mo_move_0 : decode m_mo_move.2.2.1 0 = .ok (.aload_n 0, 1) := by decide +kernel
theorem d_mo_move_1 : decode m_mo_move.2.2.1 1 = .ok (.getfield 62, 3) := by decide +kernel
theorem d_mo_move_4 : decode m_mo_move.2.2.1 4 = .ok (.iload_n 1, 1) := by decide +kernel
theorem d_mo_move_5 : decode m_mo_move.2.2.1 5 = .ok (.iconst 0, 1) := by decide +kernel
theorem d_mo_move_6 : decode m_mo_move.2.2.1 6 = .ok (.bastore, 1) := by decide +kernel
theorem d_mo_move_7 : decode m_mo_move.2.2.1 7 = .ok (.aload_n 0, 1) := by decide +kernel
theorem d_mo_move_8 : decode m_mo_move.2.2.1 8 = .ok (.iload_n 2, 1) := by decide +kernel
theorem d_mo_move_9 : decode m_mo_move.2.2.1 9 = .ok (.invokevirtual 206, 3) := by decide +kernel
theorem d_mo_move_12 : decode m_mo_move.2.2.1 12 = .ok (.istore_n 3, 1) := by decide +kernel
theorem d_mo_move_13 : decode m_mo_move.2.2.1 13 = .ok (.aload_n 0, 1) := by decide +kernel
theorem d_mo_move_14 : decode m_mo_move.2.2.1 14 = .ok (.getfield 62, 3) := by decide +kernel
theorem d_mo_move_17 : decode m_mo_move.2.2.1 17 = .ok (.iload_n 1, 1) := by decide +kernel
theorem d_mo_move_18 : decode m_mo_move.2.2.1 18 = .ok (.iconst 1, 1) := by decide +kernel
theorem d_mo_move_19 : decode m_mo_move.2.2.1 19 = .ok (.bastore, 1) := by decide +kernel
theorem d_mo_move_20 : decode m_mo_move.2.2.1 20 = .ok (.iload_n 3, 1) := by decide +kernel
theorem d_mo_move_21 : decode m_mo_move.2.2.1 21 = .ok (.ifCond .ge 5, 3) := by decide +kernel
theorem d_mo_move_24 : decode m_mo_move.2.2.1 24 = .ok (.iconst 5, 1) := by decide +kernel
theorem d_mo_move_25 : decode m_mo_move.2.2.1 25 = .ok (.ireturn, 1) := by decide +kernel
theorem d_mo_move_26 : decode m_mo_move.2.2.1 26 = .ok (.aload_n 0, 1) := by decide +kernel
theorem d_mo_move_27 : decode m_mo_move.2.2.1 27 = .ok (.getfield 40, 3) := by decide +kernel
theorem d_mo_move_30 : decode m_mo_move.2.2.1 30 = .ok (.iload_n 1, 1) := by decide +kernel
theorem d_mo_move_31 : decode m_mo_move.2.2.1 31 = .ok (.aload_n 0, 1) := by decide +kernel
theorem d_mo_move_32 : decode m_mo_move.2.2.1 32 = .ok (.getfield 40, 3) := by decide +kernel
theorem d_mo_move_35 : decode m_mo_move.2.2.1 35 = .ok (.iload_n 2, 1) := by decide +kernel
theorem d_mo_move_36 : decode m_mo_move.2.2.1 36 = .ok (.iaload, 1) := by decide +kernel
theorem d_mo_move_37 : decode m_mo_move.2.2.1 37 = .ok (.iastore, 1) := by decide +kernel
theorem d_mo_move_38 : decode m_mo_move.2.2.1 38 = .ok (.aload_n 0, 1) := by decide +kernel
theorem d_mo_move_39 : decode m_mo_move.2.2.1 39 = .ok (.getfield 46, 3) := by decide +kernel
theorem d_mo_move_42 : decode m_mo_move.2.2.1 42 = .ok (.iload_n 1, 1) := by decide +kernel
theorem d_mo_move_43 : decode m_mo_move.2.2.1 43 = .ok (.iload_n 3, 1) := by decide +kernel
theorem d_mo_move_44 : decode m_mo_move.2.2.1 44 = .ok (.iastore, 1) := by decide +kernel
theorem d_mo_move_45 : decode m_mo_move.2.2.1 45 = .ok (.iconst 0, 1) := by decide +kernel
theorem d_mo_move_46 : decode m_mo_move.2.2.1 46 = .ok (.ireturn, 1) := by decide +kernel
theorem d_mo_applyAmendment_0 : decode m_mo_applyAmendment.2.2.1 0 = .ok (.iconst 0, 1) := by decide +kernel
theorem d_mo_applyAmendment_1 : decode m_mo_applyAmendment.2.2.1 1 = .ok (.istore_n 2, 1) := by decide +kernel
theorem d_mo_applyAmendment_2 : decode m_mo_applyAmendment.2.2.1 2 = .ok (.iload_n 2, 1) := by decide +kernel
theorem d_mo_applyAmendment_3 : decode m_mo_applyAmendment.2.2.1 3 = .ok (.aload_n 0, 1) := by decide +kernel
theorem d_mo_applyAmendment_4 : decode m_mo_applyAmendment.2.2.1 4 = .ok (.getfield 28, 3) := by decide +kernel
theorem d_mo_applyAmendment_7 : decode m_mo_applyAmendment.2.2.1 7 = .ok (.iload_n 1, 1) := by decide +kernel
theorem d_mo_applyAmendment_8 : decode m_mo_applyAmendment.2.2.1 8 = .ok (.iaload, 1) := by decide +kernel
theorem d_mo_applyAmendment_9 : decode m_mo_applyAmendment.2.2.1 9 = .ok (.if_icmp .ge 65, 3) := by decide +kernel
theorem d_mo_applyAmendment_12 : decode m_mo_applyAmendment.2.2.1 12 = .ok (.aload_n 0, 1) := by decide +kernel
theorem d_mo_applyAmendment_13 : decode m_mo_applyAmendment.2.2.1 13 = .ok (.bipush 16, 2) := by decide +kernel
theorem d_mo_applyAmendment_15 : decode m_mo_applyAmendment.2.2.1 15 = .ok (.iload_n 1, 1) := by decide +kernel
theorem d_mo_applyAmendment_16 : decode m_mo_applyAmendment.2.2.1 16 = .ok (.imul, 1) := by decide +kernel
theorem d_mo_applyAmendment_17 : decode m_mo_applyAmendment.2.2.1 17 = .ok (.iload_n 2, 1) := by decide +kernel
theorem d_mo_applyAmendment_18 : decode m_mo_applyAmendment.2.2.1 18 = .ok (.iadd, 1) := by decide +kernel
theorem d_mo_applyAmendment_19 : decode m_mo_applyAmendment.2.2.1 19 = .ok (.iload_n 1, 1) := by decide +kernel
theorem d_mo_applyAmendment_20 : decode m_mo_applyAmendment.2.2.1 20 = .ok (.invokevirtual 301, 3) := by decide +kernel
theorem d_mo_applyAmendment_23 : decode m_mo_applyAmendment.2.2.1 23 = .ok (.istore_n 3, 1) := by decide +kernel
theorem d_mo_applyAmendment_24 : decode m_mo_applyAmendment.2.2.1 24 = .ok (.iload_n 3, 1) := by decide +kernel
theorem d_mo_applyAmendment_25 : decode m_mo_applyAmendment.2.2.1 25 = .ok (.ifCond .le 43, 3) := by decide +kernel
theorem d_mo_applyAmendment_28 : decode m_mo_applyAmendment.2.2.1 28 = .ok (.aload_n 0, 1) := by decide +kernel
theorem d_mo_applyAmendment_29 : decode m_mo_applyAmendment.2.2.1 29 = .ok (.getfield 68, 3) := by decide +kernel
theorem d_mo_applyAmendment_32 : decode m_mo_applyAmendment.2.2.1 32 = .ok (.aload_n 0, 1) := by decide +kernel
theorem d_mo_applyAmendment_33 : decode m_mo_applyAmendment.2.2.1 33 = .ok (.getfield 151, 3) := by decide +kernel
theorem d_mo_applyAmendment_36 : decode m_mo_applyAmendment.2.2.1 36 = .ok (.iload_n 1, 1) := by decide +kernel
theorem d_mo_applyAmendment_37 : decode m_mo_applyAmendment.2.2.1 37 = .ok (.iastore, 1) := by decide +kernel
theorem d_mo_applyAmendment_38 : decode m_mo_applyAmendment.2.2.1 38 = .ok (.aload_n 0, 1) := by decide +kernel
theorem d_mo_applyAmendment_39 : decode m_mo_applyAmendment.2.2.1 39 = .ok (.getfield 71, 3) := by decide +kernel
theorem d_mo_applyAmendment_42 : decode m_mo_applyAmendment.2.2.1 42 = .ok (.aload_n 0, 1) := by decide +kernel
theorem d_mo_applyAmendment_43 : decode m_mo_applyAmendment.2.2.1 43 = .ok (.getfield 151, 3) := by decide +kernel
theorem d_mo_applyAmendment_46 : decode m_mo_applyAmendment.2.2.1 46 = .ok (.iload_n 2, 1) := by decide +kernel
theorem d_mo_applyAmendment_47 : decode m_mo_applyAmendment.2.2.1 47 = .ok (.iastore, 1) := by decide +kernel
theorem d_mo_applyAmendment_48 : decode m_mo_applyAmendment.2.2.1 48 = .ok (.aload_n 0, 1) := by decide +kernel
theorem d_mo_applyAmendment_49 : decode m_mo_applyAmendment.2.2.1 49 = .ok (.getfield 74, 3) := by decide +kernel
theorem d_mo_applyAmendment_52 : decode m_mo_applyAmendment.2.2.1 52 = .ok (.aload_n 0, 1) := by decide +kernel
theorem d_mo_applyAmendment_53 : decode m_mo_applyAmendment.2.2.1 53 = .ok (.getfield 151, 3) := by decide +kernel
theorem d_mo_applyAmendment_56 : decode m_mo_applyAmendment.2.2.1 56 = .ok (.iload_n 3, 1) := by decide +kernel
theorem d_mo_applyAmendment_57 : decode m_mo_applyAmendment.2.2.1 57 = .ok (.iastore, 1) := by decide +kernel
theorem d_mo_applyAmendment_58 : decode m_mo_applyAmendment.2.2.1 58 = .ok (.aload_n 0, 1) := by decide +kernel
theorem d_mo_applyAmendment_59 : decode m_mo_applyAmendment.2.2.1 59 = .ok (.dup, 1) := by decide +kernel
theorem d_mo_applyAmendment_60 : decode m_mo_applyAmendment.2.2.1 60 = .ok (.getfield 151, 3) := by decide +kernel
theorem d_mo_applyAmendment_63 : decode m_mo_applyAmendment.2.2.1 63 = .ok (.iconst 1, 1) := by decide +kernel
theorem d_mo_applyAmendment_64 : decode m_mo_applyAmendment.2.2.1 64 = .ok (.iadd, 1) := by decide +kernel
theorem d_mo_applyAmendment_65 : decode m_mo_applyAmendment.2.2.1 65 = .ok (.putfield 151, 3) := by decide +kernel
theorem d_mo_applyAmendment_68 : decode m_mo_applyAmendment.2.2.1 68 = .ok (.iinc 2 1, 3) := by decide +kernel
theorem d_mo_applyAmendment_71 : decode m_mo_applyAmendment.2.2.1 71 = .ok (.goto (-69), 3) := by decide +kernel
theorem d_mo_applyAmendment_74 : decode m_mo_applyAmendment.2.2.1 74 = .ok (.return_, 1) := by decide +kernel
theorem d_mo_compute_0 : decode m_mo_compute.2.2.1 0 = .ok (.iload_n 1, 1) := by decide +kernel
theorem d_mo_compute_1 : decode m_mo_compute.2.2.1 1 = .ok (.iconst (-1), 1) := by decide +kernel
theorem d_mo_compute_2 : decode m_mo_compute.2.2.1 2 = .ok (.sipush 9999, 3) := by decide +kernel
theorem d_mo_compute_5 : decode m_mo_compute.2.2.1 5 = .ok (.invokestatic 189, 3) := by decide +kernel
theorem d_mo_compute_8 : decode m_mo_compute.2.2.1 8 = .ok (.ifCond .ne 5, 3) := by decide +kernel
theorem d_mo_compute_11 : decode m_mo_compute.2.2.1 11 = .ok (.iconst 0, 1) := by decide +kernel
theorem d_mo_compute_12 : decode m_mo_compute.2.2.1 12 = .ok (.ireturn, 1) := by decide +kernel
theorem d_mo_compute_13 : decode m_mo_compute.2.2.1 13 = .ok (.aload_n 0, 1) := by decide +kernel
theorem d_mo_compute_14 : decode m_mo_compute.2.2.1 14 = .ok (.invokevirtual 196, 3) := by decide +kernel
theorem d_mo_compute_17 : decode m_mo_compute.2.2.1 17 = .ok (.aload_n 0, 1) := by decide +kernel
theorem d_mo_compute_18 : decode m_mo_compute.2.2.1 18 = .ok (.iconst (-1), 1) := by decide +kernel
theorem d_mo_compute_19 : decode m_mo_compute.2.2.1 19 = .ok (.iload_n 1, 1) := by decide +kernel
theorem d_mo_compute_20 : decode m_mo_compute.2.2.1 20 = .ok (.invokevirtual 304, 3) := by decide +kernel
theorem d_mo_compute_23 : decode m_mo_compute.2.2.1 23 = .ok (.istore_n 2, 1) := by decide +kernel
theorem d_mo_compute_24 : decode m_mo_compute.2.2.1 24 = .ok (.iload_n 2, 1) := by decide +kernel
theorem d_mo_compute_25 : decode m_mo_compute.2.2.1 25 = .ok (.ifCond .lt 44, 3) := by decide +kernel
theorem d_mo_compute_28 : decode m_mo_compute.2.2.1 28 = .ok (.iconst 0, 1) := by decide +kernel
theorem d_mo_compute_29 : decode m_mo_compute.2.2.1 29 = .ok (.istore_n 3, 1) := by decide +kernel
theorem d_mo_compute_30 : decode m_mo_compute.2.2.1 30 = .ok (.iload_n 3, 1) := by decide +kernel
theorem d_mo_compute_31 : decode m_mo_compute.2.2.1 31 = .ok (.aload_n 0, 1) := by decide +kernel
theorem d_mo_compute_32 : decode m_mo_compute.2.2.1 32 = .ok (.getfield 209, 3) := by decide +kernel
theorem d_mo_compute_35 : decode m_mo_compute.2.2.1 35 = .ok (.if_icmp .ge 24, 3) := by decide +kernel
theorem d_mo_compute_38 : decode m_mo_compute.2.2.1 38 = .ok (.aload_n 0, 1) := by decide +kernel
theorem d_mo_compute_39 : decode m_mo_compute.2.2.1 39 = .ok (.getfield 25, 3) := by decide +kernel
theorem d_mo_compute_42 : decode m_mo_compute.2.2.1 42 = .ok (.iload_n 3, 1) := by decide +kernel
theorem d_mo_compute_43 : decode m_mo_compute.2.2.1 43 = .ok (.iaload, 1) := by decide +kernel
theorem d_mo_compute_44 : decode m_mo_compute.2.2.1 44 = .ok (.iload_n 2, 1) := by decide +kernel
theorem d_mo_compute_45 : decode m_mo_compute.2.2.1 45 = .ok (.if_icmp .ne 8, 3) := by decide +kernel
theorem d_mo_compute_48 : decode m_mo_compute.2.2.1 48 = .ok (.aload_n 0, 1) := by decide +kernel
theorem d_mo_compute_49 : decode m_mo_compute.2.2.1 49 = .ok (.iload_n 3, 1) := by decide +kernel
theorem d_mo_compute_50 : decode m_mo_compute.2.2.1 50 = .ok (.invokevirtual 307, 3) := by decide +kernel
theorem d_mo_compute_53 : decode m_mo_compute.2.2.1 53 = .ok (.iinc 3 1, 3) := by decide +kernel
theorem d_mo_compute_56 : decode m_mo_compute.2.2.1 56 = .ok (.goto (-26), 3) := by decide +kernel
theorem d_mo_compute_59 : decode m_mo_compute.2.2.1 59 = .ok (.aload_n 0, 1) := by decide +kernel
theorem d_mo_compute_60 : decode m_mo_compute.2.2.1 60 = .ok (.iload_n 2, 1) := by decide +kernel
theorem d_mo_compute_61 : decode m_mo_compute.2.2.1 61 = .ok (.iload_n 1, 1) := by decide +kernel
theorem d_mo_compute_62 : decode m_mo_compute.2.2.1 62 = .ok (.invokevirtual 304, 3) := by decide +kernel
theorem d_mo_compute_65 : decode m_mo_compute.2.2.1 65 = .ok (.istore_n 2, 1) := by decide +kernel
theorem d_mo_compute_66 : decode m_mo_compute.2.2.1 66 = .ok (.goto (-42), 3) := by decide +kernel
theorem d_mo_compute_69 : decode m_mo_compute.2.2.1 69 = .ok (.aload_n 0, 1) := by decide +kernel
theorem d_mo_compute_70 : decode m_mo_compute.2.2.1 70 = .ok (.invokevirtual 310, 3) := by decide +kernel
theorem d_mo_compute_73 : decode m_mo_compute.2.2.1 73 = .ok (.iconst 1, 1) := by decide +kernel
theorem d_mo_compute_74 : decode m_mo_compute.2.2.1 74 = .ok (.ireturn, 1) := by decide +kernel
theorem d_mo_nextDay_0 : decode m_mo_nextDay.2.2.1 0 = .ok (.iconst (-1), 1) := by decide +kernel
theorem d_mo_nextDay_1 : decode m_mo_nextDay.2.2.1 1 = .ok (.istore_n 3, 1) := by decide +kernel
theorem d_mo_nextDay_2 : decode m_mo_nextDay.2.2.1 2 = .ok (.iconst 0, 1) := by decide +kernel
theorem d_mo_nextDay_3 : decode m_mo_nextDay.2.2.1 3 = .ok (.istore 4, 2) := by decide +kernel
theorem d_mo_nextDay_5 : decode m_mo_nextDay.2.2.1 5 = .ok (.iload 4, 2) := by decide +kernel
theorem d_mo_nextDay_7 : decode m_mo_nextDay.2.2.1 7 = .ok (.aload_n 0, 1) := by decide +kernel
theorem d_mo_nextDay_8 : decode m_mo_nextDay.2.2.1 8 = .ok (.getfield 209, 3) := by decide +kernel
theorem d_mo_nextDay_11 : decode m_mo_nextDay.2.2.1 11 = .ok (.if_icmp .ge 70, 3) := by decide +kernel
theorem d_mo_nextDay_14 : decode m_mo_nextDay.2.2.1 14 = .ok (.aload_n 0, 1) := by decide +kernel
theorem d_mo_nextDay_15 : decode m_mo_nextDay.2.2.1 15 = .ok (.getfield 25, 3) := by decide +kernel
theorem d_mo_nextDay_18 : decode m_mo_nextDay.2.2.1 18 = .ok (.iload 4, 2) := by decide +kernel
theorem d_mo_nextDay_20 : decode m_mo_nextDay.2.2.1 20 = .ok (.iaload, 1) := by decide +kernel
theorem d_mo_nextDay_21 : decode m_mo_nextDay.2.2.1 21 = .ok (.iload_n 1, 1) := by decide +kernel
theorem d_mo_nextDay_22 : decode m_mo_nextDay.2.2.1 22 = .ok (.if_icmp .le 18, 3) := by decide +kernel
theorem d_mo_nextDay_25 : decode m_mo_nextDay.2.2.1 25 = .ok (.aload_n 0, 1) := by decide +kernel
theorem d_mo_nextDay_26 : decode m_mo_nextDay.2.2.1 26 = .ok (.getfield 25, 3) := by decide +kernel
theorem d_mo_nextDay_29 : decode m_mo_nextDay.2.2.1 29 = .ok (.iload 4, 2) := by decide +kernel
theorem d_mo_nextDay_31 : decode m_mo_nextDay.2.2.1 31 = .ok (.iaload, 1) := by decide +kernel
theorem d_mo_nextDay_32 : decode m_mo_nextDay.2.2.1 32 = .ok (.iload_n 2, 1) := by decide +kernel
theorem d_mo_nextDay_33 : decode m_mo_nextDay.2.2.1 33 = .ok (.if_icmp .gt 7, 3) := by decide +kernel
theorem d_mo_nextDay_36 : decode m_mo_nextDay.2.2.1 36 = .ok (.iconst 1, 1) := by decide +kernel
theorem d_mo_nextDay_37 : decode m_mo_nextDay.2.2.1 37 = .ok (.goto 4, 3) := by decide +kernel
theorem d_mo_nextDay_40 : decode m_mo_nextDay.2.2.1 40 = .ok (.iconst 0, 1) := by decide +kernel
theorem d_mo_nextDay_41 : decode m_mo_nextDay.2.2.1 41 = .ok (.istore 5, 2) := by decide +kernel
theorem d_mo_nextDay_43 : decode m_mo_nextDay.2.2.1 43 = .ok (.iload 5, 2) := by decide +kernel
theorem d_mo_nextDay_45 : decode m_mo_nextDay.2.2.1 45 = .ok (.ifCond .eq 28, 3) := by decide +kernel
theorem d_mo_nextDay_48 : decode m_mo_nextDay.2.2.1 48 = .ok (.iload_n 3, 1) := by decide +kernel
theorem d_mo_nextDay_49 : decode m_mo_nextDay.2.2.1 49 = .ok (.ifCond .lt 14, 3) := by decide +kernel
theorem d_mo_nextDay_52 : decode m_mo_nextDay.2.2.1 52 = .ok (.aload_n 0, 1) := by decide +kernel
theorem d_mo_nextDay_53 : decode m_mo_nextDay.2.2.1 53 = .ok (.getfield 25, 3) := by decide +kernel
theorem d_mo_nextDay_56 : decode m_mo_nextDay.2.2.1 56 = .ok (.iload 4, 2) := by decide +kernel
theorem d_mo_nextDay_58 : decode m_mo_nextDay.2.2.1 58 = .ok (.iaload, 1) := by decide +kernel
theorem d_mo_nextDay_59 : decode m_mo_nextDay.2.2.1 59 = .ok (.iload_n 3, 1) := by decide +kernel
theorem d_mo_nextDay_60 : decode m_mo_nextDay.2.2.1 60 = .ok (.if_icmp .ge 13, 3) := by decide +kernel
theorem d_mo_nextDay_63 : decode m_mo_nextDay.2.2.1 63 = .ok (.aload_n 0, 1) := by decide +kernel
theorem d_mo_nextDay_64 : decode m_mo_nextDay.2.2.1 64 = .ok (.getfield 25, 3) := by decide +kernel
theorem d_mo_nextDay_67 : decode m_mo_nextDay.2.2.1 67 = .ok (.iload 4, 2) := by decide +kernel
theorem d_mo_nextDay_69 : decode m_mo_nextDay.2.2.1 69 = .ok (.iaload, 1) := by decide +kernel
theorem d_mo_nextDay_70 : decode m_mo_nextDay.2.2.1 70 = .ok (.goto 4, 3) := by decide +kernel
theorem d_mo_nextDay_73 : decode m_mo_nextDay.2.2.1 73 = .ok (.iload_n 3, 1) := by decide +kernel
theorem d_mo_nextDay_74 : decode m_mo_nextDay.2.2.1 74 = .ok (.istore_n 3, 1) := by decide +kernel
theorem d_mo_nextDay_75 : decode m_mo_nextDay.2.2.1 75 = .ok (.iinc 4 1, 3) := by decide +kernel
theorem d_mo_nextDay_78 : decode m_mo_nextDay.2.2.1 78 = .ok (.goto (-73), 3) := by decide +kernel
theorem d_mo_nextDay_81 : decode m_mo_nextDay.2.2.1 81 = .ok (.iload_n 3, 1) := by decide +kernel
theorem d_mo_nextDay_82 : decode m_mo_nextDay.2.2.1 82 = .ok (.ireturn, 1) := by decide +kernel
theorem d_mo_reach_0 : decode m_mo_reach.2.2.1 0 = .ok (.aload_n 0, 1) := by decide +kernel
theorem d_mo_reach_1 : decode m_mo_reach.2.2.1 1 = .ok (.iload_n 1, 1) := by decide +kernel
theorem d_mo_reach_2 : decode m_mo_reach.2.2.1 2 = .ok (.invokevirtual 313, 3) := by decide +kernel
theorem d_mo_reach_5 : decode m_mo_reach.2.2.1 5 = .ok (.ifCond .ne 8, 3) := by decide +kernel
theorem d_mo_reach_8 : decode m_mo_reach.2.2.1 8 = .ok (.bipush (-4), 2) := by decide +kernel
theorem d_mo_reach_10 : decode m_mo_reach.2.2.1 10 = .ok (.goto 23, 3) := by decide +kernel
theorem d_mo_reach_13 : decode m_mo_reach.2.2.1 13 = .ok (.iload_n 2, 1) := by decide +kernel
theorem d_mo_reach_14 : decode m_mo_reach.2.2.1 14 = .ok (.iconst 0, 1) := by decide +kernel
theorem d_mo_reach_15 : decode m_mo_reach.2.2.1 15 = .ok (.aload_n 0, 1) := by decide +kernel
theorem d_mo_reach_16 : decode m_mo_reach.2.2.1 16 = .ok (.getfield 148, 3) := by decide +kernel
theorem d_mo_reach_19 : decode m_mo_reach.2.2.1 19 = .ok (.iconst 1, 1) := by decide +kernel
theorem d_mo_reach_20 : decode m_mo_reach.2.2.1 20 = .ok (.isub, 1) := by decide +kernel
theorem d_mo_reach_21 : decode m_mo_reach.2.2.1 21 = .ok (.invokestatic 189, 3) := by decide +kernel
theorem d_mo_reach_24 : decode m_mo_reach.2.2.1 24 = .ok (.ifCond .eq 7, 3) := by decide +kernel
theorem d_mo_reach_27 : decode m_mo_reach.2.2.1 27 = .ok (.iconst 0, 1) := by decide +kernel
theorem d_mo_reach_28 : decode m_mo_reach.2.2.1 28 = .ok (.goto 5, 3) := by decide +kernel
theorem d_mo_reach_31 : decode m_mo_reach.2.2.1 31 = .ok (.bipush (-2), 2) := by decide +kernel
theorem d_mo_reach_33 : decode m_mo_reach.2.2.1 33 = .ok (.ireturn, 1) := by decide +kernel
theorem d_mo_provisionCount_0 : decode m_mo_provisionCount.2.2.1 0 = .ok (.aload_n 0, 1) := by decide +kernel
theorem d_mo_provisionCount_1 : decode m_mo_provisionCount.2.2.1 1 = .ok (.iload_n 1, 1) := by decide +kernel
theorem d_mo_provisionCount_2 : decode m_mo_provisionCount.2.2.1 2 = .ok (.invokevirtual 313, 3) := by decide +kernel
theorem d_mo_provisionCount_5 : decode m_mo_provisionCount.2.2.1 5 = .ok (.ifCond .eq 10, 3) := by decide +kernel
theorem d_mo_provisionCount_8 : decode m_mo_provisionCount.2.2.1 8 = .ok (.aload_n 0, 1) := by decide +kernel
theorem d_mo_provisionCount_9 : decode m_mo_provisionCount.2.2.1 9 = .ok (.getfield 148, 3) := by decide +kernel
theorem d_mo_provisionCount_12 : decode m_mo_provisionCount.2.2.1 12 = .ok (.goto 5, 3) := by decide +kernel
theorem d_mo_provisionCount_15 : decode m_mo_provisionCount.2.2.1 15 = .ok (.bipush (-4), 2) := by decide +kernel
theorem d_mo_provisionCount_17 : decode m_mo_provisionCount.2.2.1 17 = .ok (.ireturn, 1) := by decide +kernel
theorem d_mo_levelAt_0 : decode m_mo_levelAt.2.2.1 0 = .ok (.aload_n 0, 1) := by decide +kernel
theorem d_mo_levelAt_1 : decode m_mo_levelAt.2.2.1 1 = .ok (.iload_n 1, 1) := by decide +kernel
theorem d_mo_levelAt_2 : decode m_mo_levelAt.2.2.1 2 = .ok (.iload_n 2, 1) := by decide +kernel
theorem d_mo_levelAt_3 : decode m_mo_levelAt.2.2.1 3 = .ok (.invokevirtual 316, 3) := by decide +kernel
theorem d_mo_levelAt_6 : decode m_mo_levelAt.2.2.1 6 = .ok (.istore_n 3, 1) := by decide +kernel
theorem d_mo_levelAt_7 : decode m_mo_levelAt.2.2.1 7 = .ok (.iload_n 3, 1) := by decide +kernel
theorem d_mo_levelAt_8 : decode m_mo_levelAt.2.2.1 8 = .ok (.ifCond .ge 7, 3) := by decide +kernel
theorem d_mo_levelAt_11 : decode m_mo_levelAt.2.2.1 11 = .ok (.iload_n 3, 1) := by decide +kernel
theorem d_mo_levelAt_12 : decode m_mo_levelAt.2.2.1 12 = .ok (.goto 14, 3) := by decide +kernel
theorem d_mo_levelAt_15 : decode m_mo_levelAt.2.2.1 15 = .ok (.aload_n 0, 1) := by decide +kernel
theorem d_mo_levelAt_16 : decode m_mo_levelAt.2.2.1 16 = .ok (.getfield 43, 3) := by decide +kernel
theorem d_mo_levelAt_19 : decode m_mo_levelAt.2.2.1 19 = .ok (.aload_n 0, 1) := by decide +kernel
theorem d_mo_levelAt_20 : decode m_mo_levelAt.2.2.1 20 = .ok (.getfield 65, 3) := by decide +kernel
theorem d_mo_levelAt_23 : decode m_mo_levelAt.2.2.1 23 = .ok (.iload_n 2, 1) := by decide +kernel
theorem d_mo_levelAt_24 : decode m_mo_levelAt.2.2.1 24 = .ok (.iaload, 1) := by decide +kernel
theorem d_mo_levelAt_25 : decode m_mo_levelAt.2.2.1 25 = .ok (.iaload, 1) := by decide +kernel
theorem d_mo_levelAt_26 : decode m_mo_levelAt.2.2.1 26 = .ok (.ireturn, 1) := by decide +kernel
theorem d_mo_textAt_0 : decode m_mo_textAt.2.2.1 0 = .ok (.aload_n 0, 1) := by decide +kernel
theorem d_mo_textAt_1 : decode m_mo_textAt.2.2.1 1 = .ok (.iload_n 1, 1) := by decide +kernel
theorem d_mo_textAt_2 : decode m_mo_textAt.2.2.1 2 = .ok (.iload_n 2, 1) := by decide +kernel
theorem d_mo_textAt_3 : decode m_mo_textAt.2.2.1 3 = .ok (.invokevirtual 316, 3) := by decide +kernel
theorem d_mo_textAt_6 : decode m_mo_textAt.2.2.1 6 = .ok (.istore_n 3, 1) := by decide +kernel
theorem d_mo_textAt_7 : decode m_mo_textAt.2.2.1 7 = .ok (.iload_n 3, 1) := by decide +kernel
theorem d_mo_textAt_8 : decode m_mo_textAt.2.2.1 8 = .ok (.ifCond .ge 7, 3) := by decide +kernel
theorem d_mo_textAt_11 : decode m_mo_textAt.2.2.1 11 = .ok (.iload_n 3, 1) := by decide +kernel
theorem d_mo_textAt_12 : decode m_mo_textAt.2.2.1 12 = .ok (.goto 14, 3) := by decide +kernel
theorem d_mo_textAt_15 : decode m_mo_textAt.2.2.1 15 = .ok (.aload_n 0, 1) := by decide +kernel
theorem d_mo_textAt_16 : decode m_mo_textAt.2.2.1 16 = .ok (.getfield 49, 3) := by decide +kernel
theorem d_mo_textAt_19 : decode m_mo_textAt.2.2.1 19 = .ok (.aload_n 0, 1) := by decide +kernel
theorem d_mo_textAt_20 : decode m_mo_textAt.2.2.1 20 = .ok (.getfield 65, 3) := by decide +kernel
theorem d_mo_textAt_23 : decode m_mo_textAt.2.2.1 23 = .ok (.iload_n 2, 1) := by decide +kernel
theorem d_mo_textAt_24 : decode m_mo_textAt.2.2.1 24 = .ok (.iaload, 1) := by decide +kernel
theorem d_mo_textAt_25 : decode m_mo_textAt.2.2.1 25 = .ok (.iaload, 1) := by decide +kernel
theorem d_mo_textAt_26 : decode m_mo_textAt.2.2.1 26 = .ok (.ireturn, 1) := by decide +kernel
theorem d_mo_isRepealedAt_0 : decode m_mo_isRepealedAt.2.2.1 0 = .ok (.aload_n 0, 1) := by decide +kernel
theorem d_mo_isRepealedAt_1 : decode m_mo_isRepealedAt.2.2.1 1 = .ok (.iload_n 1, 1) := by decide +kernel
theorem d_mo_isRepealedAt_2 : decode m_mo_isRepealedAt.2.2.1 2 = .ok (.iload_n 2, 1) := by decide +kernel
theorem d_mo_isRepealedAt_3 : decode m_mo_isRepealedAt.2.2.1 3 = .ok (.invokevirtual 316, 3) := by decide +kernel
theorem d_mo_isRepealedAt_6 : decode m_mo_isRepealedAt.2.2.1 6 = .ok (.istore_n 3, 1) := by decide +kernel
theorem d_mo_isRepealedAt_7 : decode m_mo_isRepealedAt.2.2.1 7 = .ok (.iload_n 3, 1) := by decide +kernel
theorem d_mo_isRepealedAt_8 : decode m_mo_isRepealedAt.2.2.1 8 = .ok (.ifCond .ge 7, 3) := by decide +kernel
theorem d_mo_isRepealedAt_11 : decode m_mo_isRepealedAt.2.2.1 11 = .ok (.iload_n 3, 1) := by decide +kernel
theorem d_mo_isRepealedAt_12 : decode m_mo_isRepealedAt.2.2.1 12 = .ok (.goto 22, 3) := by decide +kernel
theorem d_mo_isRepealedAt_15 : decode m_mo_isRepealedAt.2.2.1 15 = .ok (.aload_n 0, 1) := by decide +kernel
theorem d_mo_isRepealedAt_16 : decode m_mo_isRepealedAt.2.2.1 16 = .ok (.getfield 58, 3) := by decide +kernel
theorem d_mo_isRepealedAt_19 : decode m_mo_isRepealedAt.2.2.1 19 = .ok (.aload_n 0, 1) := by decide +kernel
theorem d_mo_isRepealedAt_20 : decode m_mo_isRepealedAt.2.2.1 20 = .ok (.getfield 65, 3) := by decide +kernel
theorem d_mo_isRepealedAt_23 : decode m_mo_isRepealedAt.2.2.1 23 = .ok (.iload_n 2, 1) := by decide +kernel
theorem d_mo_isRepealedAt_24 : decode m_mo_isRepealedAt.2.2.1 24 = .ok (.iaload, 1) := by decide +kernel
theorem d_mo_isRepealedAt_25 : decode m_mo_isRepealedAt.2.2.1 25 = .ok (.baload, 1) := by decide +kernel
theorem d_mo_isRepealedAt_26 : decode m_mo_isRepealedAt.2.2.1 26 = .ok (.ifCond .eq 7, 3) := by decide +kernel
theorem d_mo_isRepealedAt_29 : decode m_mo_isRepealedAt.2.2.1 29 = .ok (.iconst 1, 1) := by decide +kernel
theorem d_mo_isRepealedAt_30 : decode m_mo_isRepealedAt.2.2.1 30 = .ok (.goto 4, 3) := by decide +kernel
theorem d_mo_isRepealedAt_33 : decode m_mo_isRepealedAt.2.2.1 33 = .ok (.iconst 0, 1) := by decide +kernel
theorem d_mo_isRepealedAt_34 : decode m_mo_isRepealedAt.2.2.1 34 = .ok (.ireturn, 1) := by decide +kernel
theorem d_mo_write_0 : decode m_mo_write.2.2.1 0 = .ok (.aload_n 0, 1) := by decide +kernel
theorem d_mo_write_1 : decode m_mo_write.2.2.1 1 = .ok (.getfield 83, 3) := by decide +kernel
theorem d_mo_write_4 : decode m_mo_write.2.2.1 4 = .ok (.aload_n 0, 1) := by decide +kernel
theorem d_mo_write_5 : decode m_mo_write.2.2.1 5 = .ok (.getfield 319, 3) := by decide +kernel
theorem d_mo_write_8 : decode m_mo_write.2.2.1 8 = .ok (.iload_n 1, 1) := by decide +kernel
theorem d_mo_write_9 : decode m_mo_write.2.2.1 9 = .ok (.iastore, 1) := by decide +kernel
theorem d_mo_write_10 : decode m_mo_write.2.2.1 10 = .ok (.aload_n 0, 1) := by decide +kernel
theorem d_mo_write_11 : decode m_mo_write.2.2.1 11 = .ok (.dup, 1) := by decide +kernel
theorem d_mo_write_12 : decode m_mo_write.2.2.1 12 = .ok (.getfield 319, 3) := by decide +kernel
theorem d_mo_write_15 : decode m_mo_write.2.2.1 15 = .ok (.iconst 1, 1) := by decide +kernel
theorem d_mo_write_16 : decode m_mo_write.2.2.1 16 = .ok (.iadd, 1) := by decide +kernel
theorem d_mo_write_17 : decode m_mo_write.2.2.1 17 = .ok (.putfield 319, 3) := by decide +kernel
theorem d_mo_write_20 : decode m_mo_write.2.2.1 20 = .ok (.return_, 1) := by decide +kernel
theorem d_mo_writeLabel_0 : decode m_mo_writeLabel.2.2.1 0 = .ok (.iload_n 1, 1) := by decide +kernel
theorem d_mo_writeLabel_1 : decode m_mo_writeLabel.2.2.1 1 = .ok (.sipush 19683, 3) := by decide +kernel
theorem d_mo_writeLabel_4 : decode m_mo_writeLabel.2.2.1 4 = .ok (.idiv, 1) := by decide +kernel
theorem d_mo_writeLabel_5 : decode m_mo_writeLabel.2.2.1 5 = .ok (.istore_n 2, 1) := by decide +kernel
theorem d_mo_writeLabel_6 : decode m_mo_writeLabel.2.2.1 6 = .ok (.iload_n 2, 1) := by decide +kernel
theorem d_mo_writeLabel_7 : decode m_mo_writeLabel.2.2.1 7 = .ok (.bipush 9, 2) := by decide +kernel
theorem d_mo_writeLabel_9 : decode m_mo_writeLabel.2.2.1 9 = .ok (.if_icmp .le 14, 3) := by decide +kernel
theorem d_mo_writeLabel_12 : decode m_mo_writeLabel.2.2.1 12 = .ok (.aload_n 0, 1) := by decide +kernel
theorem d_mo_writeLabel_13 : decode m_mo_writeLabel.2.2.1 13 = .ok (.bipush 48, 2) := by decide +kernel
theorem d_mo_writeLabel_15 : decode m_mo_writeLabel.2.2.1 15 = .ok (.iload_n 2, 1) := by decide +kernel
theorem d_mo_writeLabel_16 : decode m_mo_writeLabel.2.2.1 16 = .ok (.bipush 10, 2) := by decide +kernel
theorem d_mo_writeLabel_18 : decode m_mo_writeLabel.2.2.1 18 = .ok (.idiv, 1) := by decide +kernel
theorem d_mo_writeLabel_19 : decode m_mo_writeLabel.2.2.1 19 = .ok (.iadd, 1) := by decide +kernel
theorem d_mo_writeLabel_20 : decode m_mo_writeLabel.2.2.1 20 = .ok (.invokevirtual 322, 3) := by decide +kernel
theorem d_mo_writeLabel_23 : decode m_mo_writeLabel.2.2.1 23 = .ok (.aload_n 0, 1) := by decide +kernel
theorem d_mo_writeLabel_24 : decode m_mo_writeLabel.2.2.1 24 = .ok (.bipush 48, 2) := by decide +kernel
theorem d_mo_writeLabel_26 : decode m_mo_writeLabel.2.2.1 26 = .ok (.iload_n 2, 1) := by decide +kernel
theorem d_mo_writeLabel_27 : decode m_mo_writeLabel.2.2.1 27 = .ok (.bipush 10, 2) := by decide +kernel
theorem d_mo_writeLabel_29 : decode m_mo_writeLabel.2.2.1 29 = .ok (.irem, 1) := by decide +kernel
theorem d_mo_writeLabel_30 : decode m_mo_writeLabel.2.2.1 30 = .ok (.iadd, 1) := by decide +kernel
theorem d_mo_writeLabel_31 : decode m_mo_writeLabel.2.2.1 31 = .ok (.invokevirtual 322, 3) := by decide +kernel
theorem d_mo_writeLabel_34 : decode m_mo_writeLabel.2.2.1 34 = .ok (.sipush 729, 3) := by decide +kernel
theorem d_mo_writeLabel_37 : decode m_mo_writeLabel.2.2.1 37 = .ok (.istore_n 3, 1) := by decide +kernel
theorem d_mo_writeLabel_38 : decode m_mo_writeLabel.2.2.1 38 = .ok (.iload_n 3, 1) := by decide +kernel
theorem d_mo_writeLabel_39 : decode m_mo_writeLabel.2.2.1 39 = .ok (.ifCond .le 35, 3) := by decide +kernel
theorem d_mo_writeLabel_42 : decode m_mo_writeLabel.2.2.1 42 = .ok (.iload_n 1, 1) := by decide +kernel
theorem d_mo_writeLabel_43 : decode m_mo_writeLabel.2.2.1 43 = .ok (.iload_n 3, 1) := by decide +kernel
theorem d_mo_writeLabel_44 : decode m_mo_writeLabel.2.2.1 44 = .ok (.idiv, 1) := by decide +kernel
theorem d_mo_writeLabel_45 : decode m_mo_writeLabel.2.2.1 45 = .ok (.bipush 27, 2) := by decide +kernel
theorem d_mo_writeLabel_47 : decode m_mo_writeLabel.2.2.1 47 = .ok (.irem, 1) := by decide +kernel
theorem d_mo_writeLabel_48 : decode m_mo_writeLabel.2.2.1 48 = .ok (.istore 4, 2) := by decide +kernel
theorem d_mo_writeLabel_50 : decode m_mo_writeLabel.2.2.1 50 = .ok (.iload 4, 2) := by decide +kernel
theorem d_mo_writeLabel_52 : decode m_mo_writeLabel.2.2.1 52 = .ok (.ifCond .le 14, 3) := by decide +kernel
theorem d_mo_writeLabel_55 : decode m_mo_writeLabel.2.2.1 55 = .ok (.aload_n 0, 1) := by decide +kernel
theorem d_mo_writeLabel_56 : decode m_mo_writeLabel.2.2.1 56 = .ok (.bipush 65, 2) := by decide +kernel
theorem d_mo_writeLabel_58 : decode m_mo_writeLabel.2.2.1 58 = .ok (.iload 4, 2) := by decide +kernel
theorem d_mo_writeLabel_60 : decode m_mo_writeLabel.2.2.1 60 = .ok (.iadd, 1) := by decide +kernel
theorem d_mo_writeLabel_61 : decode m_mo_writeLabel.2.2.1 61 = .ok (.iconst 1, 1) := by decide +kernel
theorem d_mo_writeLabel_62 : decode m_mo_writeLabel.2.2.1 62 = .ok (.isub, 1) := by decide +kernel
theorem d_mo_writeLabel_63 : decode m_mo_writeLabel.2.2.1 63 = .ok (.invokevirtual 322, 3) := by decide +kernel
theorem d_mo_writeLabel_66 : decode m_mo_writeLabel.2.2.1 66 = .ok (.iload_n 3, 1) := by decide +kernel
theorem d_mo_writeLabel_67 : decode m_mo_writeLabel.2.2.1 67 = .ok (.bipush 27, 2) := by decide +kernel
theorem d_mo_writeLabel_69 : decode m_mo_writeLabel.2.2.1 69 = .ok (.idiv, 1) := by decide +kernel
theorem d_mo_writeLabel_70 : decode m_mo_writeLabel.2.2.1 70 = .ok (.istore_n 3, 1) := by decide +kernel
theorem d_mo_writeLabel_71 : decode m_mo_writeLabel.2.2.1 71 = .ok (.goto (-33), 3) := by decide +kernel
theorem d_mo_writeLabel_74 : decode m_mo_writeLabel.2.2.1 74 = .ok (.return_, 1) := by decide +kernel
theorem d_mo_writePath_0 : decode m_mo_writePath.2.2.1 0 = .ok (.aload_n 0, 1) := by decide +kernel
theorem d_mo_writePath_1 : decode m_mo_writePath.2.2.1 1 = .ok (.getfield 40, 3) := by decide +kernel
theorem d_mo_writePath_4 : decode m_mo_writePath.2.2.1 4 = .ok (.iload_n 1, 1) := by decide +kernel
theorem d_mo_writePath_5 : decode m_mo_writePath.2.2.1 5 = .ok (.iaload, 1) := by decide +kernel
theorem d_mo_writePath_6 : decode m_mo_writePath.2.2.1 6 = .ok (.ifCond .ge 21, 3) := by decide +kernel
theorem d_mo_writePath_9 : decode m_mo_writePath.2.2.1 9 = .ok (.aload_n 0, 1) := by decide +kernel
theorem d_mo_writePath_10 : decode m_mo_writePath.2.2.1 10 = .ok (.iconst 0, 1) := by decide +kernel
theorem d_mo_writePath_11 : decode m_mo_writePath.2.2.1 11 = .ok (.putfield 319, 3) := by decide +kernel
theorem d_mo_writePath_14 : decode m_mo_writePath.2.2.1 14 = .ok (.aload_n 0, 1) := by decide +kernel
theorem d_mo_writePath_15 : decode m_mo_writePath.2.2.1 15 = .ok (.aload_n 0, 1) := by decide +kernel
theorem d_mo_writePath_16 : decode m_mo_writePath.2.2.1 16 = .ok (.getfield 46, 3) := by decide +kernel
theorem d_mo_writePath_19 : decode m_mo_writePath.2.2.1 19 = .ok (.iload_n 1, 1) := by decide +kernel
theorem d_mo_writePath_20 : decode m_mo_writePath.2.2.1 20 = .ok (.iaload, 1) := by decide +kernel
theorem d_mo_writePath_21 : decode m_mo_writePath.2.2.1 21 = .ok (.invokevirtual 325, 3) := by decide +kernel
theorem d_mo_writePath_24 : decode m_mo_writePath.2.2.1 24 = .ok (.goto 35, 3) := by decide +kernel
theorem d_mo_writePath_27 : decode m_mo_writePath.2.2.1 27 = .ok (.aload_n 0, 1) := by decide +kernel
theorem d_mo_writePath_28 : decode m_mo_writePath.2.2.1 28 = .ok (.aload_n 0, 1) := by decide +kernel
theorem d_mo_writePath_29 : decode m_mo_writePath.2.2.1 29 = .ok (.getfield 40, 3) := by decide +kernel
theorem d_mo_writePath_32 : decode m_mo_writePath.2.2.1 32 = .ok (.iload_n 1, 1) := by decide +kernel
theorem d_mo_writePath_33 : decode m_mo_writePath.2.2.1 33 = .ok (.iaload, 1) := by decide +kernel
theorem d_mo_writePath_34 : decode m_mo_writePath.2.2.1 34 = .ok (.invokevirtual 328, 3) := by decide +kernel
theorem d_mo_writePath_37 : decode m_mo_writePath.2.2.1 37 = .ok (.aload_n 0, 1) := by decide +kernel
theorem d_mo_writePath_38 : decode m_mo_writePath.2.2.1 38 = .ok (.bipush 40, 2) := by decide +kernel
theorem d_mo_writePath_40 : decode m_mo_writePath.2.2.1 40 = .ok (.invokevirtual 322, 3) := by decide +kernel
theorem d_mo_writePath_43 : decode m_mo_writePath.2.2.1 43 = .ok (.aload_n 0, 1) := by decide +kernel
theorem d_mo_writePath_44 : decode m_mo_writePath.2.2.1 44 = .ok (.aload_n 0, 1) := by decide +kernel
theorem d_mo_writePath_45 : decode m_mo_writePath.2.2.1 45 = .ok (.getfield 46, 3) := by decide +kernel
theorem d_mo_writePath_48 : decode m_mo_writePath.2.2.1 48 = .ok (.iload_n 1, 1) := by decide +kernel
theorem d_mo_writePath_49 : decode m_mo_writePath.2.2.1 49 = .ok (.iaload, 1) := by decide +kernel
theorem d_mo_writePath_50 : decode m_mo_writePath.2.2.1 50 = .ok (.invokevirtual 325, 3) := by decide +kernel
theorem d_mo_writePath_53 : decode m_mo_writePath.2.2.1 53 = .ok (.aload_n 0, 1) := by decide +kernel
theorem d_mo_writePath_54 : decode m_mo_writePath.2.2.1 54 = .ok (.bipush 41, 2) := by decide +kernel
theorem d_mo_writePath_56 : decode m_mo_writePath.2.2.1 56 = .ok (.invokevirtual 322, 3) := by decide +kernel
theorem d_mo_writePath_59 : decode m_mo_writePath.2.2.1 59 = .ok (.return_, 1) := by decide +kernel
theorem d_mo_pathLengthAt_0 : decode m_mo_pathLengthAt.2.2.1 0 = .ok (.aload_n 0, 1) := by decide +kernel
theorem d_mo_pathLengthAt_1 : decode m_mo_pathLengthAt.2.2.1 1 = .ok (.iload_n 1, 1) := by decide +kernel
theorem d_mo_pathLengthAt_2 : decode m_mo_pathLengthAt.2.2.1 2 = .ok (.iload_n 2, 1) := by decide +kernel
theorem d_mo_pathLengthAt_3 : decode m_mo_pathLengthAt.2.2.1 3 = .ok (.invokevirtual 316, 3) := by decide +kernel
theorem d_mo_pathLengthAt_6 : decode m_mo_pathLengthAt.2.2.1 6 = .ok (.istore_n 3, 1) := by decide +kernel
theorem d_mo_pathLengthAt_7 : decode m_mo_pathLengthAt.2.2.1 7 = .ok (.iload_n 3, 1) := by decide +kernel
theorem d_mo_pathLengthAt_8 : decode m_mo_pathLengthAt.2.2.1 8 = .ok (.ifCond .ge 5, 3) := by decide +kernel
theorem d_mo_pathLengthAt_11 : decode m_mo_pathLengthAt.2.2.1 11 = .ok (.iload_n 3, 1) := by decide +kernel
theorem d_mo_pathLengthAt_12 : decode m_mo_pathLengthAt.2.2.1 12 = .ok (.ireturn, 1) := by decide +kernel
theorem d_mo_pathLengthAt_13 : decode m_mo_pathLengthAt.2.2.1 13 = .ok (.aload_n 0, 1) := by decide +kernel
theorem d_mo_pathLengthAt_14 : decode m_mo_pathLengthAt.2.2.1 14 = .ok (.aload_n 0, 1) := by decide +kernel
theorem d_mo_pathLengthAt_15 : decode m_mo_pathLengthAt.2.2.1 15 = .ok (.getfield 65, 3) := by decide +kernel
theorem d_mo_pathLengthAt_18 : decode m_mo_pathLengthAt.2.2.1 18 = .ok (.iload_n 2, 1) := by decide +kernel
theorem d_mo_pathLengthAt_19 : decode m_mo_pathLengthAt.2.2.1 19 = .ok (.iaload, 1) := by decide +kernel
theorem d_mo_pathLengthAt_20 : decode m_mo_pathLengthAt.2.2.1 20 = .ok (.invokevirtual 328, 3) := by decide +kernel
theorem d_mo_pathLengthAt_23 : decode m_mo_pathLengthAt.2.2.1 23 = .ok (.aload_n 0, 1) := by decide +kernel
theorem d_mo_pathLengthAt_24 : decode m_mo_pathLengthAt.2.2.1 24 = .ok (.getfield 319, 3) := by decide +kernel
theorem d_mo_pathLengthAt_27 : decode m_mo_pathLengthAt.2.2.1 27 = .ok (.ireturn, 1) := by decide +kernel
theorem d_mo_pathCharacterAt_0 : decode m_mo_pathCharacterAt.2.2.1 0 = .ok (.aload_n 0, 1) := by decide +kernel
theorem d_mo_pathCharacterAt_1 : decode m_mo_pathCharacterAt.2.2.1 1 = .ok (.iload_n 1, 1) := by decide +kernel
theorem d_mo_pathCharacterAt_2 : decode m_mo_pathCharacterAt.2.2.1 2 = .ok (.iload_n 2, 1) := by decide +kernel
theorem d_mo_pathCharacterAt_3 : decode m_mo_pathCharacterAt.2.2.1 3 = .ok (.invokevirtual 316, 3) := by decide +kernel
theorem d_mo_pathCharacterAt_6 : decode m_mo_pathCharacterAt.2.2.1 6 = .ok (.istore 4, 2) := by decide +kernel
theorem d_mo_pathCharacterAt_8 : decode m_mo_pathCharacterAt.2.2.1 8 = .ok (.iload 4, 2) := by decide +kernel
theorem d_mo_pathCharacterAt_10 : decode m_mo_pathCharacterAt.2.2.1 10 = .ok (.ifCond .ge 6, 3) := by decide +kernel
theorem d_mo_pathCharacterAt_13 : decode m_mo_pathCharacterAt.2.2.1 13 = .ok (.iload 4, 2) := by decide +kernel
theorem d_mo_pathCharacterAt_15 : decode m_mo_pathCharacterAt.2.2.1 15 = .ok (.ireturn, 1) := by decide +kernel
theorem d_mo_pathCharacterAt_16 : decode m_mo_pathCharacterAt.2.2.1 16 = .ok (.aload_n 0, 1) := by decide +kernel
theorem d_mo_pathCharacterAt_17 : decode m_mo_pathCharacterAt.2.2.1 17 = .ok (.aload_n 0, 1) := by decide +kernel
theorem d_mo_pathCharacterAt_18 : decode m_mo_pathCharacterAt.2.2.1 18 = .ok (.getfield 65, 3) := by decide +kernel
theorem d_mo_pathCharacterAt_21 : decode m_mo_pathCharacterAt.2.2.1 21 = .ok (.iload_n 2, 1) := by decide +kernel
theorem d_mo_pathCharacterAt_22 : decode m_mo_pathCharacterAt.2.2.1 22 = .ok (.iaload, 1) := by decide +kernel
theorem d_mo_pathCharacterAt_23 : decode m_mo_pathCharacterAt.2.2.1 23 = .ok (.invokevirtual 328, 3) := by decide +kernel
theorem d_mo_pathCharacterAt_26 : decode m_mo_pathCharacterAt.2.2.1 26 = .ok (.iload_n 3, 1) := by decide +kernel
theorem d_mo_pathCharacterAt_27 : decode m_mo_pathCharacterAt.2.2.1 27 = .ok (.iconst 0, 1) := by decide +kernel
theorem d_mo_pathCharacterAt_28 : decode m_mo_pathCharacterAt.2.2.1 28 = .ok (.aload_n 0, 1) := by decide +kernel
theorem d_mo_pathCharacterAt_29 : decode m_mo_pathCharacterAt.2.2.1 29 = .ok (.getfield 319, 3) := by decide +kernel
theorem d_mo_pathCharacterAt_32 : decode m_mo_pathCharacterAt.2.2.1 32 = .ok (.iconst 1, 1) := by decide +kernel
theorem d_mo_pathCharacterAt_33 : decode m_mo_pathCharacterAt.2.2.1 33 = .ok (.isub, 1) := by decide +kernel
theorem d_mo_pathCharacterAt_34 : decode m_mo_pathCharacterAt.2.2.1 34 = .ok (.invokestatic 189, 3) := by decide +kernel
theorem d_mo_pathCharacterAt_37 : decode m_mo_pathCharacterAt.2.2.1 37 = .ok (.ifCond .eq 12, 3) := by decide +kernel
theorem d_mo_pathCharacterAt_40 : decode m_mo_pathCharacterAt.2.2.1 40 = .ok (.aload_n 0, 1) := by decide +kernel
theorem d_mo_pathCharacterAt_41 : decode m_mo_pathCharacterAt.2.2.1 41 = .ok (.getfield 83, 3) := by decide +kernel
theorem d_mo_pathCharacterAt_44 : decode m_mo_pathCharacterAt.2.2.1 44 = .ok (.iload_n 3, 1) := by decide +kernel
theorem d_mo_pathCharacterAt_45 : decode m_mo_pathCharacterAt.2.2.1 45 = .ok (.iaload, 1) := by decide +kernel
theorem d_mo_pathCharacterAt_46 : decode m_mo_pathCharacterAt.2.2.1 46 = .ok (.goto 5, 3) := by decide +kernel
theorem d_mo_pathCharacterAt_49 : decode m_mo_pathCharacterAt.2.2.1 49 = .ok (.bipush (-9), 2) := by decide +kernel
theorem d_mo_pathCharacterAt_51 : decode m_mo_pathCharacterAt.2.2.1 51 = .ok (.ireturn, 1) := by decide +kernel
theorem d_mo_originAt_0 : decode m_mo_originAt.2.2.1 0 = .ok (.aload_n 0, 1) := by decide +kernel
theorem d_mo_originAt_1 : decode m_mo_originAt.2.2.1 1 = .ok (.iload_n 1, 1) := by decide +kernel
theorem d_mo_originAt_2 : decode m_mo_originAt.2.2.1 2 = .ok (.iload_n 2, 1) := by decide +kernel
theorem d_mo_originAt_3 : decode m_mo_originAt.2.2.1 3 = .ok (.invokevirtual 316, 3) := by decide +kernel
theorem d_mo_originAt_6 : decode m_mo_originAt.2.2.1 6 = .ok (.istore_n 3, 1) := by decide +kernel
theorem d_mo_originAt_7 : decode m_mo_originAt.2.2.1 7 = .ok (.iload_n 3, 1) := by decide +kernel
theorem d_mo_originAt_8 : decode m_mo_originAt.2.2.1 8 = .ok (.ifCond .ge 7, 3) := by decide +kernel
theorem d_mo_originAt_11 : decode m_mo_originAt.2.2.1 11 = .ok (.iload_n 3, 1) := by decide +kernel
theorem d_mo_originAt_12 : decode m_mo_originAt.2.2.1 12 = .ok (.goto 14, 3) := by decide +kernel
theorem d_mo_originAt_15 : decode m_mo_originAt.2.2.1 15 = .ok (.aload_n 0, 1) := by decide +kernel
theorem d_mo_originAt_16 : decode m_mo_originAt.2.2.1 16 = .ok (.getfield 52, 3) := by decide +kernel
theorem d_mo_originAt_19 : decode m_mo_originAt.2.2.1 19 = .ok (.aload_n 0, 1) := by decide +kernel
theorem d_mo_originAt_20 : decode m_mo_originAt.2.2.1 20 = .ok (.getfield 65, 3) := by decide +kernel
theorem d_mo_originAt_23 : decode m_mo_originAt.2.2.1 23 = .ok (.iload_n 2, 1) := by decide +kernel
theorem d_mo_originAt_24 : decode m_mo_originAt.2.2.1 24 = .ok (.iaload, 1) := by decide +kernel
theorem d_mo_originAt_25 : decode m_mo_originAt.2.2.1 25 = .ok (.iaload, 1) := by decide +kernel
theorem d_mo_originAt_26 : decode m_mo_originAt.2.2.1 26 = .ok (.ireturn, 1) := by decide +kernel
theorem d_mo_creatorAt_0 : decode m_mo_creatorAt.2.2.1 0 = .ok (.aload_n 0, 1) := by decide +kernel
theorem d_mo_creatorAt_1 : decode m_mo_creatorAt.2.2.1 1 = .ok (.iload_n 1, 1) := by decide +kernel
theorem d_mo_creatorAt_2 : decode m_mo_creatorAt.2.2.1 2 = .ok (.iload_n 2, 1) := by decide +kernel
theorem d_mo_creatorAt_3 : decode m_mo_creatorAt.2.2.1 3 = .ok (.invokevirtual 316, 3) := by decide +kernel
theorem d_mo_creatorAt_6 : decode m_mo_creatorAt.2.2.1 6 = .ok (.istore_n 3, 1) := by decide +kernel
theorem d_mo_creatorAt_7 : decode m_mo_creatorAt.2.2.1 7 = .ok (.iload_n 3, 1) := by decide +kernel
theorem d_mo_creatorAt_8 : decode m_mo_creatorAt.2.2.1 8 = .ok (.ifCond .ge 7, 3) := by decide +kernel
theorem d_mo_creatorAt_11 : decode m_mo_creatorAt.2.2.1 11 = .ok (.iload_n 3, 1) := by decide +kernel
theorem d_mo_creatorAt_12 : decode m_mo_creatorAt.2.2.1 12 = .ok (.goto 14, 3) := by decide +kernel
theorem d_mo_creatorAt_15 : decode m_mo_creatorAt.2.2.1 15 = .ok (.aload_n 0, 1) := by decide +kernel
theorem d_mo_creatorAt_16 : decode m_mo_creatorAt.2.2.1 16 = .ok (.getfield 55, 3) := by decide +kernel
theorem d_mo_creatorAt_19 : decode m_mo_creatorAt.2.2.1 19 = .ok (.aload_n 0, 1) := by decide +kernel
theorem d_mo_creatorAt_20 : decode m_mo_creatorAt.2.2.1 20 = .ok (.getfield 65, 3) := by decide +kernel
theorem d_mo_creatorAt_23 : decode m_mo_creatorAt.2.2.1 23 = .ok (.iload_n 2, 1) := by decide +kernel
theorem d_mo_creatorAt_24 : decode m_mo_creatorAt.2.2.1 24 = .ok (.iaload, 1) := by decide +kernel
theorem d_mo_creatorAt_25 : decode m_mo_creatorAt.2.2.1 25 = .ok (.iaload, 1) := by decide +kernel
theorem d_mo_creatorAt_26 : decode m_mo_creatorAt.2.2.1 26 = .ok (.ireturn, 1) := by decide +kernel
theorem d_mo_positionOf_0 : decode m_mo_positionOf.2.2.1 0 = .ok (.iconst 0, 1) := by decide +kernel
theorem d_mo_positionOf_1 : decode m_mo_positionOf.2.2.1 1 = .ok (.istore_n 2, 1) := by decide +kernel
theorem d_mo_positionOf_2 : decode m_mo_positionOf.2.2.1 2 = .ok (.aload_n 0, 1) := by decide +kernel
theorem d_mo_positionOf_3 : decode m_mo_positionOf.2.2.1 3 = .ok (.getfield 65, 3) := by decide +kernel
theorem d_mo_positionOf_6 : decode m_mo_positionOf.2.2.1 6 = .ok (.iload_n 2, 1) := by decide +kernel
theorem d_mo_positionOf_7 : decode m_mo_positionOf.2.2.1 7 = .ok (.iaload, 1) := by decide +kernel
theorem d_mo_positionOf_8 : decode m_mo_positionOf.2.2.1 8 = .ok (.iload_n 1, 1) := by decide +kernel
theorem d_mo_positionOf_9 : decode m_mo_positionOf.2.2.1 9 = .ok (.if_icmp .eq 9, 3) := by decide +kernel
theorem d_mo_positionOf_12 : decode m_mo_positionOf.2.2.1 12 = .ok (.iinc 2 1, 3) := by decide +kernel
theorem d_mo_positionOf_15 : decode m_mo_positionOf.2.2.1 15 = .ok (.goto (-13), 3) := by decide +kernel
theorem d_mo_positionOf_18 : decode m_mo_positionOf.2.2.1 18 = .ok (.iload_n 2, 1) := by decide +kernel
theorem d_mo_positionOf_19 : decode m_mo_positionOf.2.2.1 19 = .ok (.ireturn, 1) := by decide +kernel
theorem d_mo_find_0 : decode m_mo_find.2.2.1 0 = .ok (.aload_n 0, 1) := by decide +kernel
theorem d_mo_find_1 : decode m_mo_find.2.2.1 1 = .ok (.iload_n 1, 1) := by decide +kernel
theorem d_mo_find_2 : decode m_mo_find.2.2.1 2 = .ok (.invokevirtual 313, 3) := by decide +kernel
theorem d_mo_find_5 : decode m_mo_find.2.2.1 5 = .ok (.istore_n 2, 1) := by decide +kernel
theorem d_mo_find_6 : decode m_mo_find.2.2.1 6 = .ok (.aload_n 0, 1) := by decide +kernel
theorem d_mo_find_7 : decode m_mo_find.2.2.1 7 = .ok (.iconst 0, 1) := by decide +kernel
theorem d_mo_find_8 : decode m_mo_find.2.2.1 8 = .ok (.putfield 218, 3) := by decide +kernel
theorem d_mo_find_11 : decode m_mo_find.2.2.1 11 = .ok (.aload_n 0, 1) := by decide +kernel
theorem d_mo_find_12 : decode m_mo_find.2.2.1 12 = .ok (.iconst 0, 1) := by decide +kernel
theorem d_mo_find_13 : decode m_mo_find.2.2.1 13 = .ok (.putfield 221, 3) := by decide +kernel
theorem d_mo_find_16 : decode m_mo_find.2.2.1 16 = .ok (.aload_n 0, 1) := by decide +kernel
theorem d_mo_find_17 : decode m_mo_find.2.2.1 17 = .ok (.aload_n 0, 1) := by decide +kernel
theorem d_mo_find_18 : decode m_mo_find.2.2.1 18 = .ok (.getfield 86, 3) := by decide +kernel
theorem d_mo_find_21 : decode m_mo_find.2.2.1 21 = .ok (.iconst 0, 1) := by decide +kernel
theorem d_mo_find_22 : decode m_mo_find.2.2.1 22 = .ok (.invokevirtual 266, 3) := by decide +kernel
theorem d_mo_find_25 : decode m_mo_find.2.2.1 25 = .ok (.aload_n 0, 1) := by decide +kernel
theorem d_mo_find_26 : decode m_mo_find.2.2.1 26 = .ok (.getfield 221, 3) := by decide +kernel
theorem d_mo_find_29 : decode m_mo_find.2.2.1 29 = .ok (.ifCond .ne 18, 3) := by decide +kernel
theorem d_mo_find_32 : decode m_mo_find.2.2.1 32 = .ok (.aload_n 0, 1) := by decide +kernel
theorem d_mo_find_33 : decode m_mo_find.2.2.1 33 = .ok (.getfield 218, 3) := by decide +kernel
theorem d_mo_find_36 : decode m_mo_find.2.2.1 36 = .ok (.aload_n 0, 1) := by decide +kernel
theorem d_mo_find_37 : decode m_mo_find.2.2.1 37 = .ok (.getfield 215, 3) := by decide +kernel
theorem d_mo_find_40 : decode m_mo_find.2.2.1 40 = .ok (.if_icmp .ne 7, 3) := by decide +kernel
theorem d_mo_find_43 : decode m_mo_find.2.2.1 43 = .ok (.iconst 1, 1) := by decide +kernel
theorem d_mo_find_44 : decode m_mo_find.2.2.1 44 = .ok (.goto 4, 3) := by decide +kernel
theorem d_mo_find_47 : decode m_mo_find.2.2.1 47 = .ok (.iconst 0, 1) := by decide +kernel
theorem d_mo_find_48 : decode m_mo_find.2.2.1 48 = .ok (.istore_n 3, 1) := by decide +kernel
theorem d_mo_find_49 : decode m_mo_find.2.2.1 49 = .ok (.aload_n 0, 1) := by decide +kernel
theorem d_mo_find_50 : decode m_mo_find.2.2.1 50 = .ok (.iconst 0, 1) := by decide +kernel
theorem d_mo_find_51 : decode m_mo_find.2.2.1 51 = .ok (.putfield 215, 3) := by decide +kernel
theorem d_mo_find_54 : decode m_mo_find.2.2.1 54 = .ok (.iload_n 2, 1) := by decide +kernel
theorem d_mo_find_55 : decode m_mo_find.2.2.1 55 = .ok (.ifCond .ne 6, 3) := by decide +kernel
theorem d_mo_find_58 : decode m_mo_find.2.2.1 58 = .ok (.bipush (-4), 2) := by decide +kernel
theorem d_mo_find_60 : decode m_mo_find.2.2.1 60 = .ok (.ireturn, 1) := by decide +kernel
theorem d_mo_find_61 : decode m_mo_find.2.2.1 61 = .ok (.iload_n 3, 1) := by decide +kernel
theorem d_mo_find_62 : decode m_mo_find.2.2.1 62 = .ok (.ifCond .ne 12, 3) := by decide +kernel
theorem d_mo_find_65 : decode m_mo_find.2.2.1 65 = .ok (.sipush (-1000), 3) := by decide +kernel
theorem d_mo_find_68 : decode m_mo_find.2.2.1 68 = .ok (.aload_n 0, 1) := by decide +kernel
theorem d_mo_find_69 : decode m_mo_find.2.2.1 69 = .ok (.getfield 218, 3) := by decide +kernel
theorem d_mo_find_72 : decode m_mo_find.2.2.1 72 = .ok (.isub, 1) := by decide +kernel
theorem d_mo_find_73 : decode m_mo_find.2.2.1 73 = .ok (.ireturn, 1) := by decide +kernel
theorem d_mo_find_74 : decode m_mo_find.2.2.1 74 = .ok (.aload_n 0, 1) := by decide +kernel
theorem d_mo_find_75 : decode m_mo_find.2.2.1 75 = .ok (.aload_n 0, 1) := by decide +kernel
theorem d_mo_find_76 : decode m_mo_find.2.2.1 76 = .ok (.getfield 86, 3) := by decide +kernel
theorem d_mo_find_79 : decode m_mo_find.2.2.1 79 = .ok (.iconst 0, 1) := by decide +kernel
theorem d_mo_find_80 : decode m_mo_find.2.2.1 80 = .ok (.invokevirtual 288, 3) := by decide +kernel
theorem d_mo_find_83 : decode m_mo_find.2.2.1 83 = .ok (.istore 4, 2) := by decide +kernel
theorem d_mo_find_85 : decode m_mo_find.2.2.1 85 = .ok (.iload 4, 2) := by decide +kernel
theorem d_mo_find_87 : decode m_mo_find.2.2.1 87 = .ok (.ifCond .ge 8, 3) := by decide +kernel
theorem d_mo_find_90 : decode m_mo_find.2.2.1 90 = .ok (.bipush (-9), 2) := by decide +kernel
theorem d_mo_find_92 : decode m_mo_find.2.2.1 92 = .ok (.goto 9, 3) := by decide +kernel
theorem d_mo_find_95 : decode m_mo_find.2.2.1 95 = .ok (.aload_n 0, 1) := by decide +kernel
theorem d_mo_find_96 : decode m_mo_find.2.2.1 96 = .ok (.iload 4, 2) := by decide +kernel
theorem d_mo_find_98 : decode m_mo_find.2.2.1 98 = .ok (.invokevirtual 331, 3) := by decide +kernel
theorem d_mo_find_101 : decode m_mo_find.2.2.1 101 = .ok (.ireturn, 1) := by decide +kernel
theorem d_mo_labelAt_0 : decode m_mo_labelAt.2.2.1 0 = .ok (.iload_n 1, 1) := by decide +kernel
theorem d_mo_labelAt_1 : decode m_mo_labelAt.2.2.1 1 = .ok (.istore_n 3, 1) := by decide +kernel
theorem d_mo_labelAt_2 : decode m_mo_labelAt.2.2.1 2 = .ok (.iload_n 3, 1) := by decide +kernel
theorem d_mo_labelAt_3 : decode m_mo_labelAt.2.2.1 3 = .ok (.ifCond .lt 23, 3) := by decide +kernel
theorem d_mo_labelAt_6 : decode m_mo_labelAt.2.2.1 6 = .ok (.aload_n 0, 1) := by decide +kernel
theorem d_mo_labelAt_7 : decode m_mo_labelAt.2.2.1 7 = .ok (.getfield 43, 3) := by decide +kernel
theorem d_mo_labelAt_10 : decode m_mo_labelAt.2.2.1 10 = .ok (.iload_n 3, 1) := by decide +kernel
theorem d_mo_labelAt_11 : decode m_mo_labelAt.2.2.1 11 = .ok (.iaload, 1) := by decide +kernel
theorem d_mo_labelAt_12 : decode m_mo_labelAt.2.2.1 12 = .ok (.iload_n 2, 1) := by decide +kernel
theorem d_mo_labelAt_13 : decode m_mo_labelAt.2.2.1 13 = .ok (.if_icmp .le 13, 3) := by decide +kernel
theorem d_mo_labelAt_16 : decode m_mo_labelAt.2.2.1 16 = .ok (.aload_n 0, 1) := by decide +kernel
theorem d_mo_labelAt_17 : decode m_mo_labelAt.2.2.1 17 = .ok (.getfield 40, 3) := by decide +kernel
theorem d_mo_labelAt_20 : decode m_mo_labelAt.2.2.1 20 = .ok (.iload_n 3, 1) := by decide +kernel
theorem d_mo_labelAt_21 : decode m_mo_labelAt.2.2.1 21 = .ok (.iaload, 1) := by decide +kernel
theorem d_mo_labelAt_22 : decode m_mo_labelAt.2.2.1 22 = .ok (.istore_n 3, 1) := by decide +kernel
theorem d_mo_labelAt_23 : decode m_mo_labelAt.2.2.1 23 = .ok (.goto (-21), 3) := by decide +kernel
theorem d_mo_labelAt_26 : decode m_mo_labelAt.2.2.1 26 = .ok (.aload_n 0, 1) := by decide +kernel
theorem d_mo_labelAt_27 : decode m_mo_labelAt.2.2.1 27 = .ok (.getfield 43, 3) := by decide +kernel
theorem d_mo_labelAt_30 : decode m_mo_labelAt.2.2.1 30 = .ok (.iload_n 3, 1) := by decide +kernel
theorem d_mo_labelAt_31 : decode m_mo_labelAt.2.2.1 31 = .ok (.iaload, 1) := by decide +kernel
theorem d_mo_labelAt_32 : decode m_mo_labelAt.2.2.1 32 = .ok (.iload_n 2, 1) := by decide +kernel
theorem d_mo_labelAt_33 : decode m_mo_labelAt.2.2.1 33 = .ok (.if_icmp .ne 12, 3) := by decide +kernel
theorem d_mo_labelAt_36 : decode m_mo_labelAt.2.2.1 36 = .ok (.aload_n 0, 1) := by decide +kernel
theorem d_mo_labelAt_37 : decode m_mo_labelAt.2.2.1 37 = .ok (.getfield 46, 3) := by decide +kernel
theorem d_mo_labelAt_40 : decode m_mo_labelAt.2.2.1 40 = .ok (.iload_n 3, 1) := by decide +kernel
theorem d_mo_labelAt_41 : decode m_mo_labelAt.2.2.1 41 = .ok (.iaload, 1) := by decide +kernel
theorem d_mo_labelAt_42 : decode m_mo_labelAt.2.2.1 42 = .ok (.goto 4, 3) := by decide +kernel
theorem d_mo_labelAt_45 : decode m_mo_labelAt.2.2.1 45 = .ok (.iconst 0, 1) := by decide +kernel
theorem d_mo_labelAt_46 : decode m_mo_labelAt.2.2.1 46 = .ok (.ireturn, 1) := by decide +kernel
theorem d_mo_keep_0 : decode m_mo_keep.2.2.1 0 = .ok (.aload_n 0, 1) := by decide +kernel
theorem d_mo_keep_1 : decode m_mo_keep.2.2.1 1 = .ok (.aload_n 0, 1) := by decide +kernel
theorem d_mo_keep_2 : decode m_mo_keep.2.2.1 2 = .ok (.getfield 148, 3) := by decide +kernel
theorem d_mo_keep_5 : decode m_mo_keep.2.2.1 5 = .ok (.putfield 334, 3) := by decide +kernel
theorem d_mo_keep_8 : decode m_mo_keep.2.2.1 8 = .ok (.iconst 0, 1) := by decide +kernel
theorem d_mo_keep_9 : decode m_mo_keep.2.2.1 9 = .ok (.istore_n 1, 1) := by decide +kernel
theorem d_mo_keep_10 : decode m_mo_keep.2.2.1 10 = .ok (.iload_n 1, 1) := by decide +kernel
theorem d_mo_keep_11 : decode m_mo_keep.2.2.1 11 = .ok (.aload_n 0, 1) := by decide +kernel
theorem d_mo_keep_12 : decode m_mo_keep.2.2.1 12 = .ok (.getfield 148, 3) := by decide +kernel
theorem d_mo_keep_15 : decode m_mo_keep.2.2.1 15 = .ok (.if_icmp .ge 83, 3) := by decide +kernel
theorem d_mo_keep_18 : decode m_mo_keep.2.2.1 18 = .ok (.aload_n 0, 1) := by decide +kernel
theorem d_mo_keep_19 : decode m_mo_keep.2.2.1 19 = .ok (.getfield 65, 3) := by decide +kernel
theorem d_mo_keep_22 : decode m_mo_keep.2.2.1 22 = .ok (.iload_n 1, 1) := by decide +kernel
theorem d_mo_keep_23 : decode m_mo_keep.2.2.1 23 = .ok (.iaload, 1) := by decide +kernel
theorem d_mo_keep_24 : decode m_mo_keep.2.2.1 24 = .ok (.istore_n 2, 1) := by decide +kernel
theorem d_mo_keep_25 : decode m_mo_keep.2.2.1 25 = .ok (.iconst 1, 1) := by decide +kernel
theorem d_mo_keep_26 : decode m_mo_keep.2.2.1 26 = .ok (.istore_n 3, 1) := by decide +kernel
theorem d_mo_keep_27 : decode m_mo_keep.2.2.1 27 = .ok (.iload_n 3, 1) := by decide +kernel
theorem d_mo_keep_28 : decode m_mo_keep.2.2.1 28 = .ok (.iconst 3, 1) := by decide +kernel
theorem d_mo_keep_29 : decode m_mo_keep.2.2.1 29 = .ok (.if_icmp .gt 27, 3) := by decide +kernel
theorem d_mo_keep_32 : decode m_mo_keep.2.2.1 32 = .ok (.aload_n 0, 1) := by decide +kernel
theorem d_mo_keep_33 : decode m_mo_keep.2.2.1 33 = .ok (.getfield 89, 3) := by decide +kernel
theorem d_mo_keep_36 : decode m_mo_keep.2.2.1 36 = .ok (.iconst 3, 1) := by decide +kernel
theorem d_mo_keep_37 : decode m_mo_keep.2.2.1 37 = .ok (.iload_n 1, 1) := by decide +kernel
theorem d_mo_keep_38 : decode m_mo_keep.2.2.1 38 = .ok (.imul, 1) := by decide +kernel
theorem d_mo_keep_39 : decode m_mo_keep.2.2.1 39 = .ok (.iload_n 3, 1) := by decide +kernel
theorem d_mo_keep_40 : decode m_mo_keep.2.2.1 40 = .ok (.iadd, 1) := by decide +kernel
theorem d_mo_keep_41 : decode m_mo_keep.2.2.1 41 = .ok (.iconst 1, 1) := by decide +kernel
theorem d_mo_keep_42 : decode m_mo_keep.2.2.1 42 = .ok (.isub, 1) := by decide +kernel
theorem d_mo_keep_43 : decode m_mo_keep.2.2.1 43 = .ok (.aload_n 0, 1) := by decide +kernel
theorem d_mo_keep_44 : decode m_mo_keep.2.2.1 44 = .ok (.iload_n 2, 1) := by decide +kernel
theorem d_mo_keep_45 : decode m_mo_keep.2.2.1 45 = .ok (.iload_n 3, 1) := by decide +kernel
theorem d_mo_keep_46 : decode m_mo_keep.2.2.1 46 = .ok (.invokevirtual 337, 3) := by decide +kernel
theorem d_mo_keep_49 : decode m_mo_keep.2.2.1 49 = .ok (.iastore, 1) := by decide +kernel
theorem d_mo_keep_50 : decode m_mo_keep.2.2.1 50 = .ok (.iinc 3 1, 3) := by decide +kernel
theorem d_mo_keep_53 : decode m_mo_keep.2.2.1 53 = .ok (.goto (-26), 3) := by decide +kernel
theorem d_mo_keep_56 : decode m_mo_keep.2.2.1 56 = .ok (.aload_n 0, 1) := by decide +kernel
theorem d_mo_keep_57 : decode m_mo_keep.2.2.1 57 = .ok (.getfield 92, 3) := by decide +kernel
theorem d_mo_keep_60 : decode m_mo_keep.2.2.1 60 = .ok (.iload_n 1, 1) := by decide +kernel
theorem d_mo_keep_61 : decode m_mo_keep.2.2.1 61 = .ok (.aload_n 0, 1) := by decide +kernel
theorem d_mo_keep_62 : decode m_mo_keep.2.2.1 62 = .ok (.getfield 49, 3) := by decide +kernel
theorem d_mo_keep_65 : decode m_mo_keep.2.2.1 65 = .ok (.iload_n 2, 1) := by decide +kernel
theorem d_mo_keep_66 : decode m_mo_keep.2.2.1 66 = .ok (.iaload, 1) := by decide +kernel
theorem d_mo_keep_67 : decode m_mo_keep.2.2.1 67 = .ok (.iastore, 1) := by decide +kernel
theorem d_mo_keep_68 : decode m_mo_keep.2.2.1 68 = .ok (.aload_n 0, 1) := by decide +kernel
theorem d_mo_keep_69 : decode m_mo_keep.2.2.1 69 = .ok (.getfield 95, 3) := by decide +kernel
theorem d_mo_keep_72 : decode m_mo_keep.2.2.1 72 = .ok (.iload_n 1, 1) := by decide +kernel
theorem d_mo_keep_73 : decode m_mo_keep.2.2.1 73 = .ok (.aload_n 0, 1) := by decide +kernel
theorem d_mo_keep_74 : decode m_mo_keep.2.2.1 74 = .ok (.getfield 52, 3) := by decide +kernel
theorem d_mo_keep_77 : decode m_mo_keep.2.2.1 77 = .ok (.iload_n 2, 1) := by decide +kernel
theorem d_mo_keep_78 : decode m_mo_keep.2.2.1 78 = .ok (.iaload, 1) := by decide +kernel
theorem d_mo_keep_79 : decode m_mo_keep.2.2.1 79 = .ok (.iastore, 1) := by decide +kernel
theorem d_mo_keep_80 : decode m_mo_keep.2.2.1 80 = .ok (.aload_n 0, 1) := by decide +kernel
theorem d_mo_keep_81 : decode m_mo_keep.2.2.1 81 = .ok (.getfield 98, 3) := by decide +kernel
theorem d_mo_keep_84 : decode m_mo_keep.2.2.1 84 = .ok (.iload_n 1, 1) := by decide +kernel
theorem d_mo_keep_85 : decode m_mo_keep.2.2.1 85 = .ok (.aload_n 0, 1) := by decide +kernel
theorem d_mo_keep_86 : decode m_mo_keep.2.2.1 86 = .ok (.getfield 58, 3) := by decide +kernel
theorem d_mo_keep_89 : decode m_mo_keep.2.2.1 89 = .ok (.iload_n 2, 1) := by decide +kernel
theorem d_mo_keep_90 : decode m_mo_keep.2.2.1 90 = .ok (.baload, 1) := by decide +kernel
theorem d_mo_keep_91 : decode m_mo_keep.2.2.1 91 = .ok (.bastore, 1) := by decide +kernel
theorem d_mo_keep_92 : decode m_mo_keep.2.2.1 92 = .ok (.iinc 1 1, 3) := by decide +kernel
theorem d_mo_keep_95 : decode m_mo_keep.2.2.1 95 = .ok (.goto (-85), 3) := by decide +kernel
theorem d_mo_keep_98 : decode m_mo_keep.2.2.1 98 = .ok (.return_, 1) := by decide +kernel
theorem d_mo_isKept_0 : decode m_mo_isKept.2.2.1 0 = .ok (.iload_n 1, 1) := by decide +kernel
theorem d_mo_isKept_1 : decode m_mo_isKept.2.2.1 1 = .ok (.aload_n 0, 1) := by decide +kernel
theorem d_mo_isKept_2 : decode m_mo_isKept.2.2.1 2 = .ok (.getfield 334, 3) := by decide +kernel
theorem d_mo_isKept_5 : decode m_mo_isKept.2.2.1 5 = .ok (.if_icmp .ge 11, 3) := by decide +kernel
theorem d_mo_isKept_8 : decode m_mo_isKept.2.2.1 8 = .ok (.iload_n 1, 1) := by decide +kernel
theorem d_mo_isKept_9 : decode m_mo_isKept.2.2.1 9 = .ok (.aload_n 0, 1) := by decide +kernel
theorem d_mo_isKept_10 : decode m_mo_isKept.2.2.1 10 = .ok (.getfield 148, 3) := by decide +kernel
theorem d_mo_isKept_13 : decode m_mo_isKept.2.2.1 13 = .ok (.if_icmp .lt 5, 3) := by decide +kernel
theorem d_mo_isKept_16 : decode m_mo_isKept.2.2.1 16 = .ok (.iconst 0, 1) := by decide +kernel
theorem d_mo_isKept_17 : decode m_mo_isKept.2.2.1 17 = .ok (.ireturn, 1) := by decide +kernel
theorem d_mo_isKept_18 : decode m_mo_isKept.2.2.1 18 = .ok (.aload_n 0, 1) := by decide +kernel
theorem d_mo_isKept_19 : decode m_mo_isKept.2.2.1 19 = .ok (.getfield 65, 3) := by decide +kernel
theorem d_mo_isKept_22 : decode m_mo_isKept.2.2.1 22 = .ok (.iload_n 1, 1) := by decide +kernel
theorem d_mo_isKept_23 : decode m_mo_isKept.2.2.1 23 = .ok (.iaload, 1) := by decide +kernel
theorem d_mo_isKept_24 : decode m_mo_isKept.2.2.1 24 = .ok (.istore_n 3, 1) := by decide +kernel
theorem d_mo_isKept_25 : decode m_mo_isKept.2.2.1 25 = .ok (.aload_n 0, 1) := by decide +kernel
theorem d_mo_isKept_26 : decode m_mo_isKept.2.2.1 26 = .ok (.getfield 92, 3) := by decide +kernel
theorem d_mo_isKept_29 : decode m_mo_isKept.2.2.1 29 = .ok (.iload_n 1, 1) := by decide +kernel
theorem d_mo_isKept_30 : decode m_mo_isKept.2.2.1 30 = .ok (.iaload, 1) := by decide +kernel
theorem d_mo_isKept_31 : decode m_mo_isKept.2.2.1 31 = .ok (.aload_n 0, 1) := by decide +kernel
theorem d_mo_isKept_32 : decode m_mo_isKept.2.2.1 32 = .ok (.getfield 49, 3) := by decide +kernel
theorem d_mo_isKept_35 : decode m_mo_isKept.2.2.1 35 = .ok (.iload_n 3, 1) := by decide +kernel
theorem d_mo_isKept_36 : decode m_mo_isKept.2.2.1 36 = .ok (.iaload, 1) := by decide +kernel
theorem d_mo_isKept_37 : decode m_mo_isKept.2.2.1 37 = .ok (.if_icmp .ne 41, 3) := by decide +kernel
theorem d_mo_isKept_40 : decode m_mo_isKept.2.2.1 40 = .ok (.aload_n 0, 1) := by decide +kernel
theorem d_mo_isKept_41 : decode m_mo_isKept.2.2.1 41 = .ok (.getfield 98, 3) := by decide +kernel
theorem d_mo_isKept_44 : decode m_mo_isKept.2.2.1 44 = .ok (.iload_n 1, 1) := by decide +kernel
theorem d_mo_isKept_45 : decode m_mo_isKept.2.2.1 45 = .ok (.baload, 1) := by decide +kernel
theorem d_mo_isKept_46 : decode m_mo_isKept.2.2.1 46 = .ok (.aload_n 0, 1) := by decide +kernel
theorem d_mo_isKept_47 : decode m_mo_isKept.2.2.1 47 = .ok (.getfield 58, 3) := by decide +kernel
theorem d_mo_isKept_50 : decode m_mo_isKept.2.2.1 50 = .ok (.iload_n 3, 1) := by decide +kernel
theorem d_mo_isKept_51 : decode m_mo_isKept.2.2.1 51 = .ok (.baload, 1) := by decide +kernel
theorem d_mo_isKept_52 : decode m_mo_isKept.2.2.1 52 = .ok (.if_icmp .ne 26, 3) := by decide +kernel
theorem d_mo_isKept_55 : decode m_mo_isKept.2.2.1 55 = .ok (.iload_n 2, 1) := by decide +kernel
theorem d_mo_isKept_56 : decode m_mo_isKept.2.2.1 56 = .ok (.ifCond .eq 18, 3) := by decide +kernel
theorem d_mo_isKept_59 : decode m_mo_isKept.2.2.1 59 = .ok (.aload_n 0, 1) := by decide +kernel
theorem d_mo_isKept_60 : decode m_mo_isKept.2.2.1 60 = .ok (.getfield 95, 3) := by decide +kernel
theorem d_mo_isKept_63 : decode m_mo_isKept.2.2.1 63 = .ok (.iload_n 1, 1) := by decide +kernel
theorem d_mo_isKept_64 : decode m_mo_isKept.2.2.1 64 = .ok (.iaload, 1) := by decide +kernel
theorem d_mo_isKept_65 : decode m_mo_isKept.2.2.1 65 = .ok (.aload_n 0, 1) := by decide +kernel
theorem d_mo_isKept_66 : decode m_mo_isKept.2.2.1 66 = .ok (.getfield 52, 3) := by decide +kernel
theorem d_mo_isKept_69 : decode m_mo_isKept.2.2.1 69 = .ok (.iload_n 3, 1) := by decide +kernel
theorem d_mo_isKept_70 : decode m_mo_isKept.2.2.1 70 = .ok (.iaload, 1) := by decide +kernel
theorem d_mo_isKept_71 : decode m_mo_isKept.2.2.1 71 = .ok (.if_icmp .ne 7, 3) := by decide +kernel
theorem d_mo_isKept_74 : decode m_mo_isKept.2.2.1 74 = .ok (.iconst 1, 1) := by decide +kernel
theorem d_mo_isKept_75 : decode m_mo_isKept.2.2.1 75 = .ok (.goto 4, 3) := by decide +kernel
theorem d_mo_isKept_78 : decode m_mo_isKept.2.2.1 78 = .ok (.iconst 0, 1) := by decide +kernel
theorem d_mo_isKept_79 : decode m_mo_isKept.2.2.1 79 = .ok (.istore 4, 2) := by decide +kernel
theorem d_mo_isKept_81 : decode m_mo_isKept.2.2.1 81 = .ok (.iconst 1, 1) := by decide +kernel
theorem d_mo_isKept_82 : decode m_mo_isKept.2.2.1 82 = .ok (.istore 5, 2) := by decide +kernel
theorem d_mo_isKept_84 : decode m_mo_isKept.2.2.1 84 = .ok (.iload 5, 2) := by decide +kernel
theorem d_mo_isKept_86 : decode m_mo_isKept.2.2.1 86 = .ok (.iconst 3, 1) := by decide +kernel
theorem d_mo_isKept_87 : decode m_mo_isKept.2.2.1 87 = .ok (.if_icmp .gt 44, 3) := by decide +kernel
theorem d_mo_isKept_90 : decode m_mo_isKept.2.2.1 90 = .ok (.iload 4, 2) := by decide +kernel
theorem d_mo_isKept_92 : decode m_mo_isKept.2.2.1 92 = .ok (.ifCond .eq 30, 3) := by decide +kernel
theorem d_mo_isKept_95 : decode m_mo_isKept.2.2.1 95 = .ok (.aload_n 0, 1) := by decide +kernel
theorem d_mo_isKept_96 : decode m_mo_isKept.2.2.1 96 = .ok (.getfield 89, 3) := by decide +kernel
theorem d_mo_isKept_99 : decode m_mo_isKept.2.2.1 99 = .ok (.iconst 3, 1) := by decide +kernel
theorem d_mo_isKept_100 : decode m_mo_isKept.2.2.1 100 = .ok (.iload_n 1, 1) := by decide +kernel
theorem d_mo_isKept_101 : decode m_mo_isKept.2.2.1 101 = .ok (.imul, 1) := by decide +kernel
theorem d_mo_isKept_102 : decode m_mo_isKept.2.2.1 102 = .ok (.iload 5, 2) := by decide +kernel
theorem d_mo_isKept_104 : decode m_mo_isKept.2.2.1 104 = .ok (.iadd, 1) := by decide +kernel
theorem d_mo_isKept_105 : decode m_mo_isKept.2.2.1 105 = .ok (.iconst 1, 1) := by decide +kernel
theorem d_mo_isKept_106 : decode m_mo_isKept.2.2.1 106 = .ok (.isub, 1) := by decide +kernel
theorem d_mo_isKept_107 : decode m_mo_isKept.2.2.1 107 = .ok (.iaload, 1) := by decide +kernel
theorem d_mo_isKept_108 : decode m_mo_isKept.2.2.1 108 = .ok (.aload_n 0, 1) := by decide +kernel
theorem d_mo_isKept_109 : decode m_mo_isKept.2.2.1 109 = .ok (.iload_n 3, 1) := by decide +kernel
theorem d_mo_isKept_110 : decode m_mo_isKept.2.2.1 110 = .ok (.iload 5, 2) := by decide +kernel
theorem d_mo_isKept_112 : decode m_mo_isKept.2.2.1 112 = .ok (.invokevirtual 337, 3) := by decide +kernel
theorem d_mo_isKept_115 : decode m_mo_isKept.2.2.1 115 = .ok (.if_icmp .ne 7, 3) := by decide +kernel
theorem d_mo_isKept_118 : decode m_mo_isKept.2.2.1 118 = .ok (.iconst 1, 1) := by decide +kernel
theorem d_mo_isKept_119 : decode m_mo_isKept.2.2.1 119 = .ok (.goto 4, 3) := by decide +kernel
theorem d_mo_isKept_122 : decode m_mo_isKept.2.2.1 122 = .ok (.iconst 0, 1) := by decide +kernel
theorem d_mo_isKept_123 : decode m_mo_isKept.2.2.1 123 = .ok (.istore 4, 2) := by decide +kernel
theorem d_mo_isKept_125 : decode m_mo_isKept.2.2.1 125 = .ok (.iinc 5 1, 3) := by decide +kernel
theorem d_mo_isKept_128 : decode m_mo_isKept.2.2.1 128 = .ok (.goto (-44), 3) := by decide +kernel
theorem d_mo_isKept_131 : decode m_mo_isKept.2.2.1 131 = .ok (.iload 4, 2) := by decide +kernel
theorem d_mo_isKept_133 : decode m_mo_isKept.2.2.1 133 = .ok (.ireturn, 1) := by decide +kernel
theorem d_mo_firstUnlike_0 : decode m_mo_firstUnlike.2.2.1 0 = .ok (.iconst 0, 1) := by decide +kernel
theorem d_mo_firstUnlike_1 : decode m_mo_firstUnlike.2.2.1 1 = .ok (.istore_n 2, 1) := by decide +kernel
theorem d_mo_firstUnlike_2 : decode m_mo_firstUnlike.2.2.1 2 = .ok (.iload_n 2, 1) := by decide +kernel
theorem d_mo_firstUnlike_3 : decode m_mo_firstUnlike.2.2.1 3 = .ok (.aload_n 0, 1) := by decide +kernel
theorem d_mo_firstUnlike_4 : decode m_mo_firstUnlike.2.2.1 4 = .ok (.getfield 334, 3) := by decide +kernel
theorem d_mo_firstUnlike_7 : decode m_mo_firstUnlike.2.2.1 7 = .ok (.if_icmp .lt 11, 3) := by decide +kernel
theorem d_mo_firstUnlike_10 : decode m_mo_firstUnlike.2.2.1 10 = .ok (.iload_n 2, 1) := by decide +kernel
theorem d_mo_firstUnlike_11 : decode m_mo_firstUnlike.2.2.1 11 = .ok (.aload_n 0, 1) := by decide +kernel
theorem d_mo_firstUnlike_12 : decode m_mo_firstUnlike.2.2.1 12 = .ok (.getfield 148, 3) := by decide +kernel
theorem d_mo_firstUnlike_15 : decode m_mo_firstUnlike.2.2.1 15 = .ok (.if_icmp .ge 20, 3) := by decide +kernel
theorem d_mo_firstUnlike_18 : decode m_mo_firstUnlike.2.2.1 18 = .ok (.aload_n 0, 1) := by decide +kernel
theorem d_mo_firstUnlike_19 : decode m_mo_firstUnlike.2.2.1 19 = .ok (.iload_n 2, 1) := by decide +kernel
theorem d_mo_firstUnlike_20 : decode m_mo_firstUnlike.2.2.1 20 = .ok (.iload_n 1, 1) := by decide +kernel
theorem d_mo_firstUnlike_21 : decode m_mo_firstUnlike.2.2.1 21 = .ok (.invokevirtual 340, 3) := by decide +kernel
theorem d_mo_firstUnlike_24 : decode m_mo_firstUnlike.2.2.1 24 = .ok (.ifCond .ne 5, 3) := by decide +kernel
theorem d_mo_firstUnlike_27 : decode m_mo_firstUnlike.2.2.1 27 = .ok (.iload_n 2, 1) := by decide +kernel
theorem d_mo_firstUnlike_28 : decode m_mo_firstUnlike.2.2.1 28 = .ok (.ireturn, 1) := by decide +kernel
theorem d_mo_firstUnlike_29 : decode m_mo_firstUnlike.2.2.1 29 = .ok (.iinc 2 1, 3) := by decide +kernel
theorem d_mo_firstUnlike_32 : decode m_mo_firstUnlike.2.2.1 32 = .ok (.goto (-30), 3) := by decide +kernel
theorem d_mo_firstUnlike_35 : decode m_mo_firstUnlike.2.2.1 35 = .ok (.bipush (-9), 2) := by decide +kernel
theorem d_mo_firstUnlike_37 : decode m_mo_firstUnlike.2.2.1 37 = .ok (.ireturn, 1) := by decide +kernel
theorem d_mo_firstDifference_0 : decode m_mo_firstDifference.2.2.1 0 = .ok (.aload_n 0, 1) := by decide +kernel
theorem d_mo_firstDifference_1 : decode m_mo_firstDifference.2.2.1 1 = .ok (.iload_n 1, 1) := by decide +kernel
theorem d_mo_firstDifference_2 : decode m_mo_firstDifference.2.2.1 2 = .ok (.invokevirtual 313, 3) := by decide +kernel
theorem d_mo_firstDifference_5 : decode m_mo_firstDifference.2.2.1 5 = .ok (.ifCond .ne 6, 3) := by decide +kernel
theorem d_mo_firstDifference_8 : decode m_mo_firstDifference.2.2.1 8 = .ok (.bipush (-4), 2) := by decide +kernel
theorem d_mo_firstDifference_10 : decode m_mo_firstDifference.2.2.1 10 = .ok (.ireturn, 1) := by decide +kernel
theorem d_mo_firstDifference_11 : decode m_mo_firstDifference.2.2.1 11 = .ok (.aload_n 0, 1) := by decide +kernel
theorem d_mo_firstDifference_12 : decode m_mo_firstDifference.2.2.1 12 = .ok (.invokevirtual 344, 3) := by decide +kernel
theorem d_mo_firstDifference_15 : decode m_mo_firstDifference.2.2.1 15 = .ok (.aload_n 0, 1) := by decide +kernel
theorem d_mo_firstDifference_16 : decode m_mo_firstDifference.2.2.1 16 = .ok (.iload_n 2, 1) := by decide +kernel
theorem d_mo_firstDifference_17 : decode m_mo_firstDifference.2.2.1 17 = .ok (.invokevirtual 313, 3) := by decide +kernel
theorem d_mo_firstDifference_20 : decode m_mo_firstDifference.2.2.1 20 = .ok (.ifCond .eq 11, 3) := by decide +kernel
theorem d_mo_firstDifference_23 : decode m_mo_firstDifference.2.2.1 23 = .ok (.aload_n 0, 1) := by decide +kernel
theorem d_mo_firstDifference_24 : decode m_mo_firstDifference.2.2.1 24 = .ok (.iconst 0, 1) := by decide +kernel
theorem d_mo_firstDifference_25 : decode m_mo_firstDifference.2.2.1 25 = .ok (.invokevirtual 347, 3) := by decide +kernel
theorem d_mo_firstDifference_28 : decode m_mo_firstDifference.2.2.1 28 = .ok (.goto 5, 3) := by decide +kernel
theorem d_mo_firstDifference_31 : decode m_mo_firstDifference.2.2.1 31 = .ok (.bipush (-4), 2) := by decide +kernel
theorem d_mo_firstDifference_33 : decode m_mo_firstDifference.2.2.1 33 = .ok (.ireturn, 1) := by decide +kernel
theorem d_mo_doCommute_0 : decode m_mo_doCommute.2.2.1 0 = .ok (.aload_n 0, 1) := by decide +kernel
theorem d_mo_doCommute_1 : decode m_mo_doCommute.2.2.1 1 = .ok (.iload_n 1, 1) := by decide +kernel
theorem d_mo_doCommute_2 : decode m_mo_doCommute.2.2.1 2 = .ok (.invokevirtual 279, 3) := by decide +kernel
theorem d_mo_doCommute_5 : decode m_mo_doCommute.2.2.1 5 = .ok (.ifCond .eq 11, 3) := by decide +kernel
theorem d_mo_doCommute_8 : decode m_mo_doCommute.2.2.1 8 = .ok (.aload_n 0, 1) := by decide +kernel
theorem d_mo_doCommute_9 : decode m_mo_doCommute.2.2.1 9 = .ok (.iload_n 2, 1) := by decide +kernel
theorem d_mo_doCommute_10 : decode m_mo_doCommute.2.2.1 10 = .ok (.invokevirtual 279, 3) := by decide +kernel
theorem d_mo_doCommute_13 : decode m_mo_doCommute.2.2.1 13 = .ok (.ifCond .ne 6, 3) := by decide +kernel
theorem d_mo_doCommute_16 : decode m_mo_doCommute.2.2.1 16 = .ok (.bipush (-3), 2) := by decide +kernel
theorem d_mo_doCommute_18 : decode m_mo_doCommute.2.2.1 18 = .ok (.ireturn, 1) := by decide +kernel
theorem d_mo_doCommute_19 : decode m_mo_doCommute.2.2.1 19 = .ok (.aload_n 0, 1) := by decide +kernel
theorem d_mo_doCommute_20 : decode m_mo_doCommute.2.2.1 20 = .ok (.invokevirtual 196, 3) := by decide +kernel
theorem d_mo_doCommute_23 : decode m_mo_doCommute.2.2.1 23 = .ok (.aload_n 0, 1) := by decide +kernel
theorem d_mo_doCommute_24 : decode m_mo_doCommute.2.2.1 24 = .ok (.iload_n 1, 1) := by decide +kernel
theorem d_mo_doCommute_25 : decode m_mo_doCommute.2.2.1 25 = .ok (.invokevirtual 307, 3) := by decide +kernel
theorem d_mo_doCommute_28 : decode m_mo_doCommute.2.2.1 28 = .ok (.aload_n 0, 1) := by decide +kernel
theorem d_mo_doCommute_29 : decode m_mo_doCommute.2.2.1 29 = .ok (.iload_n 2, 1) := by decide +kernel
theorem d_mo_doCommute_30 : decode m_mo_doCommute.2.2.1 30 = .ok (.invokevirtual 307, 3) := by decide +kernel
theorem d_mo_doCommute_33 : decode m_mo_doCommute.2.2.1 33 = .ok (.aload_n 0, 1) := by decide +kernel
theorem d_mo_doCommute_34 : decode m_mo_doCommute.2.2.1 34 = .ok (.invokevirtual 310, 3) := by decide +kernel
theorem d_mo_doCommute_37 : decode m_mo_doCommute.2.2.1 37 = .ok (.aload_n 0, 1) := by decide +kernel
theorem d_mo_doCommute_38 : decode m_mo_doCommute.2.2.1 38 = .ok (.invokevirtual 344, 3) := by decide +kernel
theorem d_mo_doCommute_41 : decode m_mo_doCommute.2.2.1 41 = .ok (.aload_n 0, 1) := by decide +kernel
theorem d_mo_doCommute_42 : decode m_mo_doCommute.2.2.1 42 = .ok (.invokevirtual 196, 3) := by decide +kernel
theorem d_mo_doCommute_45 : decode m_mo_doCommute.2.2.1 45 = .ok (.aload_n 0, 1) := by decide +kernel
theorem d_mo_doCommute_46 : decode m_mo_doCommute.2.2.1 46 = .ok (.iload_n 2, 1) := by decide +kernel
theorem d_mo_doCommute_47 : decode m_mo_doCommute.2.2.1 47 = .ok (.invokevirtual 307, 3) := by decide +kernel
theorem d_mo_doCommute_50 : decode m_mo_doCommute.2.2.1 50 = .ok (.aload_n 0, 1) := by decide +kernel
theorem d_mo_doCommute_51 : decode m_mo_doCommute.2.2.1 51 = .ok (.iload_n 1, 1) := by decide +kernel
theorem d_mo_doCommute_52 : decode m_mo_doCommute.2.2.1 52 = .ok (.invokevirtual 307, 3) := by decide +kernel
theorem d_mo_doCommute_55 : decode m_mo_doCommute.2.2.1 55 = .ok (.aload_n 0, 1) := by decide +kernel
theorem d_mo_doCommute_56 : decode m_mo_doCommute.2.2.1 56 = .ok (.invokevirtual 310, 3) := by decide +kernel
theorem d_mo_doCommute_59 : decode m_mo_doCommute.2.2.1 59 = .ok (.aload_n 0, 1) := by decide +kernel
theorem d_mo_doCommute_60 : decode m_mo_doCommute.2.2.1 60 = .ok (.iconst 1, 1) := by decide +kernel
theorem d_mo_doCommute_61 : decode m_mo_doCommute.2.2.1 61 = .ok (.invokevirtual 347, 3) := by decide +kernel
theorem d_mo_doCommute_64 : decode m_mo_doCommute.2.2.1 64 = .ok (.bipush (-9), 2) := by decide +kernel
theorem d_mo_doCommute_66 : decode m_mo_doCommute.2.2.1 66 = .ok (.if_icmp .ne 7, 3) := by decide +kernel
theorem d_mo_doCommute_69 : decode m_mo_doCommute.2.2.1 69 = .ok (.iconst 1, 1) := by decide +kernel
theorem d_mo_doCommute_70 : decode m_mo_doCommute.2.2.1 70 = .ok (.goto 4, 3) := by decide +kernel
theorem d_mo_doCommute_73 : decode m_mo_doCommute.2.2.1 73 = .ok (.iconst 0, 1) := by decide +kernel
theorem d_mo_doCommute_74 : decode m_mo_doCommute.2.2.1 74 = .ok (.ireturn, 1) := by decide +kernel
theorem d_mo_isDangling_0 : decode m_mo_isDangling.2.2.1 0 = .ok (.aload_n 0, 1) := by decide +kernel
theorem d_mo_isDangling_1 : decode m_mo_isDangling.2.2.1 1 = .ok (.getfield 62, 3) := by decide +kernel
theorem d_mo_isDangling_4 : decode m_mo_isDangling.2.2.1 4 = .ok (.iload_n 1, 1) := by decide +kernel
theorem d_mo_isDangling_5 : decode m_mo_isDangling.2.2.1 5 = .ok (.baload, 1) := by decide +kernel
theorem d_mo_isDangling_6 : decode m_mo_isDangling.2.2.1 6 = .ok (.ifCond .eq 12, 3) := by decide +kernel
theorem d_mo_isDangling_9 : decode m_mo_isDangling.2.2.1 9 = .ok (.aload_n 0, 1) := by decide +kernel
theorem d_mo_isDangling_10 : decode m_mo_isDangling.2.2.1 10 = .ok (.getfield 58, 3) := by decide +kernel
theorem d_mo_isDangling_13 : decode m_mo_isDangling.2.2.1 13 = .ok (.iload_n 1, 1) := by decide +kernel
theorem d_mo_isDangling_14 : decode m_mo_isDangling.2.2.1 14 = .ok (.baload, 1) := by decide +kernel
theorem d_mo_isDangling_15 : decode m_mo_isDangling.2.2.1 15 = .ok (.ifCond .eq 7, 3) := by decide +kernel
theorem d_mo_isDangling_18 : decode m_mo_isDangling.2.2.1 18 = .ok (.iconst 1, 1) := by decide +kernel
theorem d_mo_isDangling_19 : decode m_mo_isDangling.2.2.1 19 = .ok (.goto 4, 3) := by decide +kernel
theorem d_mo_isDangling_22 : decode m_mo_isDangling.2.2.1 22 = .ok (.iconst 0, 1) := by decide +kernel
theorem d_mo_isDangling_23 : decode m_mo_isDangling.2.2.1 23 = .ok (.ireturn, 1) := by decide +kernel
theorem d_mo_referencesOf_0 : decode m_mo_referencesOf.2.2.1 0 = .ok (.aload_n 0, 1) := by decide +kernel
theorem d_mo_referencesOf_1 : decode m_mo_referencesOf.2.2.1 1 = .ok (.getfield 52, 3) := by decide +kernel
theorem d_mo_referencesOf_4 : decode m_mo_referencesOf.2.2.1 4 = .ok (.iload_n 1, 1) := by decide +kernel
theorem d_mo_referencesOf_5 : decode m_mo_referencesOf.2.2.1 5 = .ok (.iaload, 1) := by decide +kernel
theorem d_mo_referencesOf_6 : decode m_mo_referencesOf.2.2.1 6 = .ok (.ifCond .ge 7, 3) := by decide +kernel
theorem d_mo_referencesOf_9 : decode m_mo_referencesOf.2.2.1 9 = .ok (.iconst 0, 1) := by decide +kernel
theorem d_mo_referencesOf_10 : decode m_mo_referencesOf.2.2.1 10 = .ok (.goto 14, 3) := by decide +kernel
theorem d_mo_referencesOf_13 : decode m_mo_referencesOf.2.2.1 13 = .ok (.aload_n 0, 1) := by decide +kernel
theorem d_mo_referencesOf_14 : decode m_mo_referencesOf.2.2.1 14 = .ok (.getfield 19, 3) := by decide +kernel
theorem d_mo_referencesOf_17 : decode m_mo_referencesOf.2.2.1 17 = .ok (.aload_n 0, 1) := by decide +kernel
theorem d_mo_referencesOf_18 : decode m_mo_referencesOf.2.2.1 18 = .ok (.getfield 52, 3) := by decide +kernel
theorem d_mo_referencesOf_21 : decode m_mo_referencesOf.2.2.1 21 = .ok (.iload_n 1, 1) := by decide +kernel
theorem d_mo_referencesOf_22 : decode m_mo_referencesOf.2.2.1 22 = .ok (.iaload, 1) := by decide +kernel
theorem d_mo_referencesOf_23 : decode m_mo_referencesOf.2.2.1 23 = .ok (.iaload, 1) := by decide +kernel
theorem d_mo_referencesOf_24 : decode m_mo_referencesOf.2.2.1 24 = .ok (.ireturn, 1) := by decide +kernel
theorem d_mo_referenceCountAt_0 : decode m_mo_referenceCountAt.2.2.1 0 = .ok (.aload_n 0, 1) := by decide +kernel
theorem d_mo_referenceCountAt_1 : decode m_mo_referenceCountAt.2.2.1 1 = .ok (.iload_n 1, 1) := by decide +kernel
theorem d_mo_referenceCountAt_2 : decode m_mo_referenceCountAt.2.2.1 2 = .ok (.iload_n 2, 1) := by decide +kernel
theorem d_mo_referenceCountAt_3 : decode m_mo_referenceCountAt.2.2.1 3 = .ok (.invokevirtual 316, 3) := by decide +kernel
theorem d_mo_referenceCountAt_6 : decode m_mo_referenceCountAt.2.2.1 6 = .ok (.istore_n 3, 1) := by decide +kernel
theorem d_mo_referenceCountAt_7 : decode m_mo_referenceCountAt.2.2.1 7 = .ok (.iload_n 3, 1) := by decide +kernel
theorem d_mo_referenceCountAt_8 : decode m_mo_referenceCountAt.2.2.1 8 = .ok (.ifCond .ge 7, 3) := by decide +kernel
theorem d_mo_referenceCountAt_11 : decode m_mo_referenceCountAt.2.2.1 11 = .ok (.iload_n 3, 1) := by decide +kernel
theorem d_mo_referenceCountAt_12 : decode m_mo_referenceCountAt.2.2.1 12 = .ok (.goto 13, 3) := by decide +kernel
theorem d_mo_referenceCountAt_15 : decode m_mo_referenceCountAt.2.2.1 15 = .ok (.aload_n 0, 1) := by decide +kernel
theorem d_mo_referenceCountAt_16 : decode m_mo_referenceCountAt.2.2.1 16 = .ok (.aload_n 0, 1) := by decide +kernel
theorem d_mo_referenceCountAt_17 : decode m_mo_referenceCountAt.2.2.1 17 = .ok (.getfield 65, 3) := by decide +kernel
theorem d_mo_referenceCountAt_20 : decode m_mo_referenceCountAt.2.2.1 20 = .ok (.iload_n 2, 1) := by decide +kernel
theorem d_mo_referenceCountAt_21 : decode m_mo_referenceCountAt.2.2.1 21 = .ok (.iaload, 1) := by decide +kernel
theorem d_mo_referenceCountAt_22 : decode m_mo_referenceCountAt.2.2.1 22 = .ok (.invokevirtual 351, 3) := by decide +kernel
theorem d_mo_referenceCountAt_25 : decode m_mo_referenceCountAt.2.2.1 25 = .ok (.ireturn, 1) := by decide +kernel
theorem d_mo_referenceAt_0 : decode m_mo_referenceAt.2.2.1 0 = .ok (.aload_n 0, 1) := by decide +kernel
theorem d_mo_referenceAt_1 : decode m_mo_referenceAt.2.2.1 1 = .ok (.iload_n 1, 1) := by decide +kernel
theorem d_mo_referenceAt_2 : decode m_mo_referenceAt.2.2.1 2 = .ok (.iload_n 2, 1) := by decide +kernel
theorem d_mo_referenceAt_3 : decode m_mo_referenceAt.2.2.1 3 = .ok (.invokevirtual 316, 3) := by decide +kernel
theorem d_mo_referenceAt_6 : decode m_mo_referenceAt.2.2.1 6 = .ok (.istore 4, 2) := by decide +kernel
theorem d_mo_referenceAt_8 : decode m_mo_referenceAt.2.2.1 8 = .ok (.iload 4, 2) := by decide +kernel
theorem d_mo_referenceAt_10 : decode m_mo_referenceAt.2.2.1 10 = .ok (.ifCond .ge 6, 3) := by decide +kernel
theorem d_mo_referenceAt_13 : decode m_mo_referenceAt.2.2.1 13 = .ok (.iload 4, 2) := by decide +kernel
theorem d_mo_referenceAt_15 : decode m_mo_referenceAt.2.2.1 15 = .ok (.ireturn, 1) := by decide +kernel
theorem d_mo_referenceAt_16 : decode m_mo_referenceAt.2.2.1 16 = .ok (.aload_n 0, 1) := by decide +kernel
theorem d_mo_referenceAt_17 : decode m_mo_referenceAt.2.2.1 17 = .ok (.getfield 65, 3) := by decide +kernel
theorem d_mo_referenceAt_20 : decode m_mo_referenceAt.2.2.1 20 = .ok (.iload_n 2, 1) := by decide +kernel
theorem d_mo_referenceAt_21 : decode m_mo_referenceAt.2.2.1 21 = .ok (.iaload, 1) := by decide +kernel
theorem d_mo_referenceAt_22 : decode m_mo_referenceAt.2.2.1 22 = .ok (.istore 5, 2) := by decide +kernel
theorem d_mo_referenceAt_24 : decode m_mo_referenceAt.2.2.1 24 = .ok (.iload_n 3, 1) := by decide +kernel
theorem d_mo_referenceAt_25 : decode m_mo_referenceAt.2.2.1 25 = .ok (.iconst 0, 1) := by decide +kernel
theorem d_mo_referenceAt_26 : decode m_mo_referenceAt.2.2.1 26 = .ok (.aload_n 0, 1) := by decide +kernel
theorem d_mo_referenceAt_27 : decode m_mo_referenceAt.2.2.1 27 = .ok (.iload 5, 2) := by decide +kernel
theorem d_mo_referenceAt_29 : decode m_mo_referenceAt.2.2.1 29 = .ok (.invokevirtual 351, 3) := by decide +kernel
theorem d_mo_referenceAt_32 : decode m_mo_referenceAt.2.2.1 32 = .ok (.iconst 1, 1) := by decide +kernel
theorem d_mo_referenceAt_33 : decode m_mo_referenceAt.2.2.1 33 = .ok (.isub, 1) := by decide +kernel
theorem d_mo_referenceAt_34 : decode m_mo_referenceAt.2.2.1 34 = .ok (.invokestatic 189, 3) := by decide +kernel
theorem d_mo_referenceAt_37 : decode m_mo_referenceAt.2.2.1 37 = .ok (.ifCond .ne 6, 3) := by decide +kernel
theorem d_mo_referenceAt_40 : decode m_mo_referenceAt.2.2.1 40 = .ok (.bipush (-9), 2) := by decide +kernel
theorem d_mo_referenceAt_42 : decode m_mo_referenceAt.2.2.1 42 = .ok (.ireturn, 1) := by decide +kernel
theorem d_mo_referenceAt_43 : decode m_mo_referenceAt.2.2.1 43 = .ok (.aload_n 0, 1) := by decide +kernel
theorem d_mo_referenceAt_44 : decode m_mo_referenceAt.2.2.1 44 = .ok (.getfield 22, 3) := by decide +kernel
theorem d_mo_referenceAt_47 : decode m_mo_referenceAt.2.2.1 47 = .ok (.iconst 4, 1) := by decide +kernel
theorem d_mo_referenceAt_48 : decode m_mo_referenceAt.2.2.1 48 = .ok (.aload_n 0, 1) := by decide +kernel
theorem d_mo_referenceAt_49 : decode m_mo_referenceAt.2.2.1 49 = .ok (.getfield 52, 3) := by decide +kernel
theorem d_mo_referenceAt_52 : decode m_mo_referenceAt.2.2.1 52 = .ok (.iload 5, 2) := by decide +kernel
theorem d_mo_referenceAt_54 : decode m_mo_referenceAt.2.2.1 54 = .ok (.iaload, 1) := by decide +kernel
theorem d_mo_referenceAt_55 : decode m_mo_referenceAt.2.2.1 55 = .ok (.imul, 1) := by decide +kernel
theorem d_mo_referenceAt_56 : decode m_mo_referenceAt.2.2.1 56 = .ok (.iload_n 3, 1) := by decide +kernel
theorem d_mo_referenceAt_57 : decode m_mo_referenceAt.2.2.1 57 = .ok (.iadd, 1) := by decide +kernel
theorem d_mo_referenceAt_58 : decode m_mo_referenceAt.2.2.1 58 = .ok (.iaload, 1) := by decide +kernel
theorem d_mo_referenceAt_59 : decode m_mo_referenceAt.2.2.1 59 = .ok (.istore 6, 2) := by decide +kernel
theorem d_mo_referenceAt_61 : decode m_mo_referenceAt.2.2.1 61 = .ok (.aload_n 0, 1) := by decide +kernel
theorem d_mo_referenceAt_62 : decode m_mo_referenceAt.2.2.1 62 = .ok (.iload 6, 2) := by decide +kernel
theorem d_mo_referenceAt_64 : decode m_mo_referenceAt.2.2.1 64 = .ok (.invokevirtual 354, 3) := by decide +kernel
theorem d_mo_referenceAt_67 : decode m_mo_referenceAt.2.2.1 67 = .ok (.ifCond .eq 8, 3) := by decide +kernel
theorem d_mo_referenceAt_70 : decode m_mo_referenceAt.2.2.1 70 = .ok (.bipush (-10), 2) := by decide +kernel
theorem d_mo_referenceAt_72 : decode m_mo_referenceAt.2.2.1 72 = .ok (.goto 9, 3) := by decide +kernel
theorem d_mo_referenceAt_75 : decode m_mo_referenceAt.2.2.1 75 = .ok (.aload_n 0, 1) := by decide +kernel
theorem d_mo_referenceAt_76 : decode m_mo_referenceAt.2.2.1 76 = .ok (.iload 6, 2) := by decide +kernel
theorem d_mo_referenceAt_78 : decode m_mo_referenceAt.2.2.1 78 = .ok (.invokevirtual 331, 3) := by decide +kernel
theorem d_mo_referenceAt_81 : decode m_mo_referenceAt.2.2.1 81 = .ok (.ireturn, 1) := by decide +kernel
theorem d_mo_danglingCount_0 : decode m_mo_danglingCount.2.2.1 0 = .ok (.aload_n 0, 1) := by decide +kernel
theorem d_mo_danglingCount_1 : decode m_mo_danglingCount.2.2.1 1 = .ok (.iload_n 1, 1) := by decide +kernel
theorem d_mo_danglingCount_2 : decode m_mo_danglingCount.2.2.1 2 = .ok (.invokevirtual 313, 3) := by decide +kernel
theorem d_mo_danglingCount_5 : decode m_mo_danglingCount.2.2.1 5 = .ok (.ifCond .ne 6, 3) := by decide +kernel
theorem d_mo_danglingCount_8 : decode m_mo_danglingCount.2.2.1 8 = .ok (.bipush (-4), 2) := by decide +kernel
theorem d_mo_danglingCount_10 : decode m_mo_danglingCount.2.2.1 10 = .ok (.ireturn, 1) := by decide +kernel
theorem d_mo_danglingCount_11 : decode m_mo_danglingCount.2.2.1 11 = .ok (.iconst 0, 1) := by decide +kernel
theorem d_mo_danglingCount_12 : decode m_mo_danglingCount.2.2.1 12 = .ok (.istore_n 2, 1) := by decide +kernel
theorem d_mo_danglingCount_13 : decode m_mo_danglingCount.2.2.1 13 = .ok (.iconst 0, 1) := by decide +kernel
theorem d_mo_danglingCount_14 : decode m_mo_danglingCount.2.2.1 14 = .ok (.istore_n 3, 1) := by decide +kernel
theorem d_mo_danglingCount_15 : decode m_mo_danglingCount.2.2.1 15 = .ok (.iload_n 3, 1) := by decide +kernel
theorem d_mo_danglingCount_16 : decode m_mo_danglingCount.2.2.1 16 = .ok (.aload_n 0, 1) := by decide +kernel
theorem d_mo_danglingCount_17 : decode m_mo_danglingCount.2.2.1 17 = .ok (.getfield 154, 3) := by decide +kernel
theorem d_mo_danglingCount_20 : decode m_mo_danglingCount.2.2.1 20 = .ok (.if_icmp .ge 73, 3) := by decide +kernel
theorem d_mo_danglingCount_23 : decode m_mo_danglingCount.2.2.1 23 = .ok (.iconst 0, 1) := by decide +kernel
theorem d_mo_danglingCount_24 : decode m_mo_danglingCount.2.2.1 24 = .ok (.istore 4, 2) := by decide +kernel
theorem d_mo_danglingCount_26 : decode m_mo_danglingCount.2.2.1 26 = .ok (.iload 4, 2) := by decide +kernel
theorem d_mo_danglingCount_28 : decode m_mo_danglingCount.2.2.1 28 = .ok (.aload_n 0, 1) := by decide +kernel
theorem d_mo_danglingCount_29 : decode m_mo_danglingCount.2.2.1 29 = .ok (.getfield 19, 3) := by decide +kernel
theorem d_mo_danglingCount_32 : decode m_mo_danglingCount.2.2.1 32 = .ok (.iload_n 3, 1) := by decide +kernel
theorem d_mo_danglingCount_33 : decode m_mo_danglingCount.2.2.1 33 = .ok (.iaload, 1) := by decide +kernel
theorem d_mo_danglingCount_34 : decode m_mo_danglingCount.2.2.1 34 = .ok (.if_icmp .ge 53, 3) := by decide +kernel
theorem d_mo_danglingCount_37 : decode m_mo_danglingCount.2.2.1 37 = .ok (.iload_n 2, 1) := by decide +kernel
theorem d_mo_danglingCount_38 : decode m_mo_danglingCount.2.2.1 38 = .ok (.aload_n 0, 1) := by decide +kernel
theorem d_mo_danglingCount_39 : decode m_mo_danglingCount.2.2.1 39 = .ok (.getfield 62, 3) := by decide +kernel
theorem d_mo_danglingCount_42 : decode m_mo_danglingCount.2.2.1 42 = .ok (.iload_n 3, 1) := by decide +kernel
theorem d_mo_danglingCount_43 : decode m_mo_danglingCount.2.2.1 43 = .ok (.baload, 1) := by decide +kernel
theorem d_mo_danglingCount_44 : decode m_mo_danglingCount.2.2.1 44 = .ok (.ifCond .eq 34, 3) := by decide +kernel
theorem d_mo_danglingCount_47 : decode m_mo_danglingCount.2.2.1 47 = .ok (.aload_n 0, 1) := by decide +kernel
theorem d_mo_danglingCount_48 : decode m_mo_danglingCount.2.2.1 48 = .ok (.getfield 58, 3) := by decide +kernel
theorem d_mo_danglingCount_51 : decode m_mo_danglingCount.2.2.1 51 = .ok (.iload_n 3, 1) := by decide +kernel
theorem d_mo_danglingCount_52 : decode m_mo_danglingCount.2.2.1 52 = .ok (.baload, 1) := by decide +kernel
theorem d_mo_danglingCount_53 : decode m_mo_danglingCount.2.2.1 53 = .ok (.ifCond .ne 25, 3) := by decide +kernel
theorem d_mo_danglingCount_56 : decode m_mo_danglingCount.2.2.1 56 = .ok (.aload_n 0, 1) := by decide +kernel
theorem d_mo_danglingCount_57 : decode m_mo_danglingCount.2.2.1 57 = .ok (.aload_n 0, 1) := by decide +kernel
theorem d_mo_danglingCount_58 : decode m_mo_danglingCount.2.2.1 58 = .ok (.getfield 22, 3) := by decide +kernel
theorem d_mo_danglingCount_61 : decode m_mo_danglingCount.2.2.1 61 = .ok (.iconst 4, 1) := by decide +kernel
theorem d_mo_danglingCount_62 : decode m_mo_danglingCount.2.2.1 62 = .ok (.iload_n 3, 1) := by decide +kernel
theorem d_mo_danglingCount_63 : decode m_mo_danglingCount.2.2.1 63 = .ok (.imul, 1) := by decide +kernel
theorem d_mo_danglingCount_64 : decode m_mo_danglingCount.2.2.1 64 = .ok (.iload 4, 2) := by decide +kernel
theorem d_mo_danglingCount_66 : decode m_mo_danglingCount.2.2.1 66 = .ok (.iadd, 1) := by decide +kernel
theorem d_mo_danglingCount_67 : decode m_mo_danglingCount.2.2.1 67 = .ok (.iaload, 1) := by decide +kernel
theorem d_mo_danglingCount_68 : decode m_mo_danglingCount.2.2.1 68 = .ok (.invokevirtual 354, 3) := by decide +kernel
theorem d_mo_danglingCount_71 : decode m_mo_danglingCount.2.2.1 71 = .ok (.ifCond .eq 7, 3) := by decide +kernel
theorem d_mo_danglingCount_74 : decode m_mo_danglingCount.2.2.1 74 = .ok (.iconst 1, 1) := by decide +kernel
theorem d_mo_danglingCount_75 : decode m_mo_danglingCount.2.2.1 75 = .ok (.goto 4, 3) := by decide +kernel
theorem d_mo_danglingCount_78 : decode m_mo_danglingCount.2.2.1 78 = .ok (.iconst 0, 1) := by decide +kernel
theorem d_mo_danglingCount_79 : decode m_mo_danglingCount.2.2.1 79 = .ok (.iadd, 1) := by decide +kernel
theorem d_mo_danglingCount_80 : decode m_mo_danglingCount.2.2.1 80 = .ok (.istore_n 2, 1) := by decide +kernel
theorem d_mo_danglingCount_81 : decode m_mo_danglingCount.2.2.1 81 = .ok (.iinc 4 1, 3) := by decide +kernel
theorem d_mo_danglingCount_84 : decode m_mo_danglingCount.2.2.1 84 = .ok (.goto (-58), 3) := by decide +kernel
theorem d_mo_danglingCount_87 : decode m_mo_danglingCount.2.2.1 87 = .ok (.iinc 3 1, 3) := by decide +kernel
theorem d_mo_danglingCount_90 : decode m_mo_danglingCount.2.2.1 90 = .ok (.goto (-75), 3) := by decide +kernel
theorem d_mo_danglingCount_93 : decode m_mo_danglingCount.2.2.1 93 = .ok (.iload_n 2, 1) := by decide +kernel
theorem d_mo_danglingCount_94 : decode m_mo_danglingCount.2.2.1 94 = .ok (.ireturn, 1) := by decide +kernel
theorem d_mo_conflictCount_0 : decode m_mo_conflictCount.2.2.1 0 = .ok (.aload_n 0, 1) := by decide +kernel
theorem d_mo_conflictCount_1 : decode m_mo_conflictCount.2.2.1 1 = .ok (.iload_n 1, 1) := by decide +kernel
theorem d_mo_conflictCount_2 : decode m_mo_conflictCount.2.2.1 2 = .ok (.invokevirtual 313, 3) := by decide +kernel
theorem d_mo_conflictCount_5 : decode m_mo_conflictCount.2.2.1 5 = .ok (.ifCond .eq 10, 3) := by decide +kernel
theorem d_mo_conflictCount_8 : decode m_mo_conflictCount.2.2.1 8 = .ok (.aload_n 0, 1) := by decide +kernel
theorem d_mo_conflictCount_9 : decode m_mo_conflictCount.2.2.1 9 = .ok (.getfield 151, 3) := by decide +kernel
theorem d_mo_conflictCount_12 : decode m_mo_conflictCount.2.2.1 12 = .ok (.goto 5, 3) := by decide +kernel
theorem d_mo_conflictCount_15 : decode m_mo_conflictCount.2.2.1 15 = .ok (.bipush (-4), 2) := by decide +kernel
theorem d_mo_conflictCount_17 : decode m_mo_conflictCount.2.2.1 17 = .ok (.ireturn, 1) := by decide +kernel
theorem d_mo_reachConflict_0 : decode m_mo_reachConflict.2.2.1 0 = .ok (.aload_n 0, 1) := by decide +kernel
theorem d_mo_reachConflict_1 : decode m_mo_reachConflict.2.2.1 1 = .ok (.iload_n 1, 1) := by decide +kernel
theorem d_mo_reachConflict_2 : decode m_mo_reachConflict.2.2.1 2 = .ok (.invokevirtual 313, 3) := by decide +kernel
theorem d_mo_reachConflict_5 : decode m_mo_reachConflict.2.2.1 5 = .ok (.ifCond .ne 8, 3) := by decide +kernel
theorem d_mo_reachConflict_8 : decode m_mo_reachConflict.2.2.1 8 = .ok (.bipush (-4), 2) := by decide +kernel
theorem d_mo_reachConflict_10 : decode m_mo_reachConflict.2.2.1 10 = .ok (.goto 23, 3) := by decide +kernel
theorem d_mo_reachConflict_13 : decode m_mo_reachConflict.2.2.1 13 = .ok (.iload_n 2, 1) := by decide +kernel
theorem d_mo_reachConflict_14 : decode m_mo_reachConflict.2.2.1 14 = .ok (.iconst 0, 1) := by decide +kernel
theorem d_mo_reachConflict_15 : decode m_mo_reachConflict.2.2.1 15 = .ok (.aload_n 0, 1) := by decide +kernel
theorem d_mo_reachConflict_16 : decode m_mo_reachConflict.2.2.1 16 = .ok (.getfield 151, 3) := by decide +kernel
theorem d_mo_reachConflict_19 : decode m_mo_reachConflict.2.2.1 19 = .ok (.iconst 1, 1) := by decide +kernel
theorem d_mo_reachConflict_20 : decode m_mo_reachConflict.2.2.1 20 = .ok (.isub, 1) := by decide +kernel
theorem d_mo_reachConflict_21 : decode m_mo_reachConflict.2.2.1 21 = .ok (.invokestatic 189, 3) := by decide +kernel
theorem d_mo_reachConflict_24 : decode m_mo_reachConflict.2.2.1 24 = .ok (.ifCond .eq 7, 3) := by decide +kernel
theorem d_mo_reachConflict_27 : decode m_mo_reachConflict.2.2.1 27 = .ok (.iconst 0, 1) := by decide +kernel
theorem d_mo_reachConflict_28 : decode m_mo_reachConflict.2.2.1 28 = .ok (.goto 5, 3) := by decide +kernel
theorem d_mo_reachConflict_31 : decode m_mo_reachConflict.2.2.1 31 = .ok (.bipush (-9), 2) := by decide +kernel
theorem d_mo_reachConflict_33 : decode m_mo_reachConflict.2.2.1 33 = .ok (.ireturn, 1) := by decide +kernel
theorem d_mo_conflictAmendment_0 : decode m_mo_conflictAmendment.2.2.1 0 = .ok (.aload_n 0, 1) := by decide +kernel
theorem d_mo_conflictAmendment_1 : decode m_mo_conflictAmendment.2.2.1 1 = .ok (.iload_n 1, 1) := by decide +kernel
theorem d_mo_conflictAmendment_2 : decode m_mo_conflictAmendment.2.2.1 2 = .ok (.iload_n 2, 1) := by decide +kernel
theorem d_mo_conflictAmendment_3 : decode m_mo_conflictAmendment.2.2.1 3 = .ok (.invokevirtual 357, 3) := by decide +kernel
theorem d_mo_conflictAmendment_6 : decode m_mo_conflictAmendment.2.2.1 6 = .ok (.istore_n 3, 1) := by decide +kernel
theorem d_mo_conflictAmendment_7 : decode m_mo_conflictAmendment.2.2.1 7 = .ok (.iload_n 3, 1) := by decide +kernel
theorem d_mo_conflictAmendment_8 : decode m_mo_conflictAmendment.2.2.1 8 = .ok (.ifCond .ge 7, 3) := by decide +kernel
theorem d_mo_conflictAmendment_11 : decode m_mo_conflictAmendment.2.2.1 11 = .ok (.iload_n 3, 1) := by decide +kernel
theorem d_mo_conflictAmendment_12 : decode m_mo_conflictAmendment.2.2.1 12 = .ok (.goto 9, 3) := by decide +kernel
theorem d_mo_conflictAmendment_15 : decode m_mo_conflictAmendment.2.2.1 15 = .ok (.aload_n 0, 1) := by decide +kernel
theorem d_mo_conflictAmendment_16 : decode m_mo_conflictAmendment.2.2.1 16 = .ok (.getfield 68, 3) := by decide +kernel
theorem d_mo_conflictAmendment_19 : decode m_mo_conflictAmendment.2.2.1 19 = .ok (.iload_n 2, 1) := by decide +kernel
theorem d_mo_conflictAmendment_20 : decode m_mo_conflictAmendment.2.2.1 20 = .ok (.iaload, 1) := by decide +kernel
theorem d_mo_conflictAmendment_21 : decode m_mo_conflictAmendment.2.2.1 21 = .ok (.ireturn, 1) := by decide +kernel
theorem d_mo_conflictInstruction_0 : decode m_mo_conflictInstruction.2.2.1 0 = .ok (.aload_n 0, 1) := by decide +kernel
theorem d_mo_conflictInstruction_1 : decode m_mo_conflictInstruction.2.2.1 1 = .ok (.iload_n 1, 1) := by decide +kernel
theorem d_mo_conflictInstruction_2 : decode m_mo_conflictInstruction.2.2.1 2 = .ok (.iload_n 2, 1) := by decide +kernel
theorem d_mo_conflictInstruction_3 : decode m_mo_conflictInstruction.2.2.1 3 = .ok (.invokevirtual 357, 3) := by decide +kernel
theorem d_mo_conflictInstruction_6 : decode m_mo_conflictInstruction.2.2.1 6 = .ok (.istore_n 3, 1) := by decide +kernel
theorem d_mo_conflictInstruction_7 : decode m_mo_conflictInstruction.2.2.1 7 = .ok (.iload_n 3, 1) := by decide +kernel
theorem d_mo_conflictInstruction_8 : decode m_mo_conflictInstruction.2.2.1 8 = .ok (.ifCond .ge 7, 3) := by decide +kernel
theorem d_mo_conflictInstruction_11 : decode m_mo_conflictInstruction.2.2.1 11 = .ok (.iload_n 3, 1) := by decide +kernel
theorem d_mo_conflictInstruction_12 : decode m_mo_conflictInstruction.2.2.1 12 = .ok (.goto 9, 3) := by decide +kernel
theorem d_mo_conflictInstruction_15 : decode m_mo_conflictInstruction.2.2.1 15 = .ok (.aload_n 0, 1) := by decide +kernel
theorem d_mo_conflictInstruction_16 : decode m_mo_conflictInstruction.2.2.1 16 = .ok (.getfield 71, 3) := by decide +kernel
theorem d_mo_conflictInstruction_19 : decode m_mo_conflictInstruction.2.2.1 19 = .ok (.iload_n 2, 1) := by decide +kernel
theorem d_mo_conflictInstruction_20 : decode m_mo_conflictInstruction.2.2.1 20 = .ok (.iaload, 1) := by decide +kernel
theorem d_mo_conflictInstruction_21 : decode m_mo_conflictInstruction.2.2.1 21 = .ok (.ireturn, 1) := by decide +kernel
theorem d_mo_conflictReason_0 : decode m_mo_conflictReason.2.2.1 0 = .ok (.aload_n 0, 1) := by decide +kernel
theorem d_mo_conflictReason_1 : decode m_mo_conflictReason.2.2.1 1 = .ok (.iload_n 1, 1) := by decide +kernel
theorem d_mo_conflictReason_2 : decode m_mo_conflictReason.2.2.1 2 = .ok (.iload_n 2, 1) := by decide +kernel
theorem d_mo_conflictReason_3 : decode m_mo_conflictReason.2.2.1 3 = .ok (.invokevirtual 357, 3) := by decide +kernel
theorem d_mo_conflictReason_6 : decode m_mo_conflictReason.2.2.1 6 = .ok (.istore_n 3, 1) := by decide +kernel
theorem d_mo_conflictReason_7 : decode m_mo_conflictReason.2.2.1 7 = .ok (.iload_n 3, 1) := by decide +kernel
theorem d_mo_conflictReason_8 : decode m_mo_conflictReason.2.2.1 8 = .ok (.ifCond .ge 7, 3) := by decide +kernel
theorem d_mo_conflictReason_11 : decode m_mo_conflictReason.2.2.1 11 = .ok (.iload_n 3, 1) := by decide +kernel
theorem d_mo_conflictReason_12 : decode m_mo_conflictReason.2.2.1 12 = .ok (.goto 9, 3) := by decide +kernel
theorem d_mo_conflictReason_15 : decode m_mo_conflictReason.2.2.1 15 = .ok (.aload_n 0, 1) := by decide +kernel
theorem d_mo_conflictReason_16 : decode m_mo_conflictReason.2.2.1 16 = .ok (.getfield 74, 3) := by decide +kernel
theorem d_mo_conflictReason_19 : decode m_mo_conflictReason.2.2.1 19 = .ok (.iload_n 2, 1) := by decide +kernel
theorem d_mo_conflictReason_20 : decode m_mo_conflictReason.2.2.1 20 = .ok (.iaload, 1) := by decide +kernel
theorem d_mo_conflictReason_21 : decode m_mo_conflictReason.2.2.1 21 = .ok (.ireturn, 1) := by decide +kernel
theorem d_mo_averageLevel_0 : decode m_mo_averageLevel.2.2.1 0 = .ok (.aload_n 0, 1) := by decide +kernel
theorem d_mo_averageLevel_1 : decode m_mo_averageLevel.2.2.1 1 = .ok (.iload_n 1, 1) := by decide +kernel
theorem d_mo_averageLevel_2 : decode m_mo_averageLevel.2.2.1 2 = .ok (.invokevirtual 313, 3) := by decide +kernel
theorem d_mo_averageLevel_5 : decode m_mo_averageLevel.2.2.1 5 = .ok (.ifCond .ne 6, 3) := by decide +kernel
theorem d_mo_averageLevel_8 : decode m_mo_averageLevel.2.2.1 8 = .ok (.bipush (-4), 2) := by decide +kernel
theorem d_mo_averageLevel_10 : decode m_mo_averageLevel.2.2.1 10 = .ok (.ireturn, 1) := by decide +kernel
theorem d_mo_averageLevel_11 : decode m_mo_averageLevel.2.2.1 11 = .ok (.iconst 0, 1) := by decide +kernel
theorem d_mo_averageLevel_12 : decode m_mo_averageLevel.2.2.1 12 = .ok (.istore_n 2, 1) := by decide +kernel
theorem d_mo_averageLevel_13 : decode m_mo_averageLevel.2.2.1 13 = .ok (.iconst 0, 1) := by decide +kernel
theorem d_mo_averageLevel_14 : decode m_mo_averageLevel.2.2.1 14 = .ok (.istore_n 3, 1) := by decide +kernel
theorem d_mo_averageLevel_15 : decode m_mo_averageLevel.2.2.1 15 = .ok (.iconst 0, 1) := by decide +kernel
theorem d_mo_averageLevel_16 : decode m_mo_averageLevel.2.2.1 16 = .ok (.istore 4, 2) := by decide +kernel
theorem d_mo_averageLevel_18 : decode m_mo_averageLevel.2.2.1 18 = .ok (.iload 4, 2) := by decide +kernel
theorem d_mo_averageLevel_20 : decode m_mo_averageLevel.2.2.1 20 = .ok (.aload_n 0, 1) := by decide +kernel
theorem d_mo_averageLevel_21 : decode m_mo_averageLevel.2.2.1 21 = .ok (.getfield 148, 3) := by decide +kernel
theorem d_mo_averageLevel_24 : decode m_mo_averageLevel.2.2.1 24 = .ok (.if_icmp .ge 66, 3) := by decide +kernel
theorem d_mo_averageLevel_27 : decode m_mo_averageLevel.2.2.1 27 = .ok (.iload_n 2, 1) := by decide +kernel
theorem d_mo_averageLevel_28 : decode m_mo_averageLevel.2.2.1 28 = .ok (.aload_n 0, 1) := by decide +kernel
theorem d_mo_averageLevel_29 : decode m_mo_averageLevel.2.2.1 29 = .ok (.getfield 58, 3) := by decide +kernel
theorem d_mo_averageLevel_32 : decode m_mo_averageLevel.2.2.1 32 = .ok (.aload_n 0, 1) := by decide +kernel
theorem d_mo_averageLevel_33 : decode m_mo_averageLevel.2.2.1 33 = .ok (.getfield 65, 3) := by decide +kernel
theorem d_mo_averageLevel_36 : decode m_mo_averageLevel.2.2.1 36 = .ok (.iload 4, 2) := by decide +kernel
theorem d_mo_averageLevel_38 : decode m_mo_averageLevel.2.2.1 38 = .ok (.iaload, 1) := by decide +kernel
theorem d_mo_averageLevel_39 : decode m_mo_averageLevel.2.2.1 39 = .ok (.baload, 1) := by decide +kernel
theorem d_mo_averageLevel_40 : decode m_mo_averageLevel.2.2.1 40 = .ok (.ifCond .eq 7, 3) := by decide +kernel
theorem d_mo_averageLevel_43 : decode m_mo_averageLevel.2.2.1 43 = .ok (.iconst 0, 1) := by decide +kernel
theorem d_mo_averageLevel_44 : decode m_mo_averageLevel.2.2.1 44 = .ok (.goto 15, 3) := by decide +kernel
theorem d_mo_averageLevel_47 : decode m_mo_averageLevel.2.2.1 47 = .ok (.aload_n 0, 1) := by decide +kernel
theorem d_mo_averageLevel_48 : decode m_mo_averageLevel.2.2.1 48 = .ok (.getfield 43, 3) := by decide +kernel
theorem d_mo_averageLevel_51 : decode m_mo_averageLevel.2.2.1 51 = .ok (.aload_n 0, 1) := by decide +kernel
theorem d_mo_averageLevel_52 : decode m_mo_averageLevel.2.2.1 52 = .ok (.getfield 65, 3) := by decide +kernel
theorem d_mo_averageLevel_55 : decode m_mo_averageLevel.2.2.1 55 = .ok (.iload 4, 2) := by decide +kernel
theorem d_mo_averageLevel_57 : decode m_mo_averageLevel.2.2.1 57 = .ok (.iaload, 1) := by decide +kernel
theorem d_mo_averageLevel_58 : decode m_mo_averageLevel.2.2.1 58 = .ok (.iaload, 1) := by decide +kernel
theorem d_mo_averageLevel_59 : decode m_mo_averageLevel.2.2.1 59 = .ok (.iadd, 1) := by decide +kernel
theorem d_mo_averageLevel_60 : decode m_mo_averageLevel.2.2.1 60 = .ok (.istore_n 2, 1) := by decide +kernel
theorem d_mo_averageLevel_61 : decode m_mo_averageLevel.2.2.1 61 = .ok (.iload_n 3, 1) := by decide +kernel
theorem d_mo_averageLevel_62 : decode m_mo_averageLevel.2.2.1 62 = .ok (.aload_n 0, 1) := by decide +kernel
theorem d_mo_averageLevel_63 : decode m_mo_averageLevel.2.2.1 63 = .ok (.getfield 58, 3) := by decide +kernel
theorem d_mo_averageLevel_66 : decode m_mo_averageLevel.2.2.1 66 = .ok (.aload_n 0, 1) := by decide +kernel
theorem d_mo_averageLevel_67 : decode m_mo_averageLevel.2.2.1 67 = .ok (.getfield 65, 3) := by decide +kernel
theorem d_mo_averageLevel_70 : decode m_mo_averageLevel.2.2.1 70 = .ok (.iload 4, 2) := by decide +kernel
theorem d_mo_averageLevel_72 : decode m_mo_averageLevel.2.2.1 72 = .ok (.iaload, 1) := by decide +kernel
theorem d_mo_averageLevel_73 : decode m_mo_averageLevel.2.2.1 73 = .ok (.baload, 1) := by decide +kernel
theorem d_mo_averageLevel_74 : decode m_mo_averageLevel.2.2.1 74 = .ok (.ifCond .eq 7, 3) := by decide +kernel
theorem d_mo_averageLevel_77 : decode m_mo_averageLevel.2.2.1 77 = .ok (.iconst 0, 1) := by decide +kernel
theorem d_mo_averageLevel_78 : decode m_mo_averageLevel.2.2.1 78 = .ok (.goto 4, 3) := by decide +kernel
theorem d_mo_averageLevel_81 : decode m_mo_averageLevel.2.2.1 81 = .ok (.iconst 1, 1) := by decide +kernel
theorem d_mo_averageLevel_82 : decode m_mo_averageLevel.2.2.1 82 = .ok (.iadd, 1) := by decide +kernel
theorem d_mo_averageLevel_83 : decode m_mo_averageLevel.2.2.1 83 = .ok (.istore_n 3, 1) := by decide +kernel
theorem d_mo_averageLevel_84 : decode m_mo_averageLevel.2.2.1 84 = .ok (.iinc 4 1, 3) := by decide +kernel
theorem d_mo_averageLevel_87 : decode m_mo_averageLevel.2.2.1 87 = .ok (.goto (-69), 3) := by decide +kernel
theorem d_mo_averageLevel_90 : decode m_mo_averageLevel.2.2.1 90 = .ok (.iload_n 2, 1) := by decide +kernel
theorem d_mo_averageLevel_91 : decode m_mo_averageLevel.2.2.1 91 = .ok (.i2f, 1) := by decide +kernel
theorem d_mo_averageLevel_92 : decode m_mo_averageLevel.2.2.1 92 = .ok (.iload_n 3, 1) := by decide +kernel
theorem d_mo_averageLevel_93 : decode m_mo_averageLevel.2.2.1 93 = .ok (.i2f, 1) := by decide +kernel
theorem d_mo_averageLevel_94 : decode m_mo_averageLevel.2.2.1 94 = .ok (.fdiv, 1) := by decide +kernel
theorem d_mo_averageLevel_95 : decode m_mo_averageLevel.2.2.1 95 = .ok (.invokestatic 360, 3) := by decide +kernel
theorem d_mo_averageLevel_98 : decode m_mo_averageLevel.2.2.1 98 = .ok (.ireturn, 1) := by decide +kernel
theorem d_mo_repealedShare_0 : decode m_mo_repealedShare.2.2.1 0 = .ok (.aload_n 0, 1) := by decide +kernel
theorem d_mo_repealedShare_1 : decode m_mo_repealedShare.2.2.1 1 = .ok (.iload_n 1, 1) := by decide +kernel
theorem d_mo_repealedShare_2 : decode m_mo_repealedShare.2.2.1 2 = .ok (.invokevirtual 313, 3) := by decide +kernel
theorem d_mo_repealedShare_5 : decode m_mo_repealedShare.2.2.1 5 = .ok (.ifCond .ne 7, 3) := by decide +kernel
theorem d_mo_repealedShare_8 : decode m_mo_repealedShare.2.2.1 8 = .ok (.ldc2_w 366, 3) := by decide +kernel
theorem d_mo_repealedShare_11 : decode m_mo_repealedShare.2.2.1 11 = .ok (.lreturn, 1) := by decide +kernel
theorem d_mo_repealedShare_12 : decode m_mo_repealedShare.2.2.1 12 = .ok (.iconst 0, 1) := by decide +kernel
theorem d_mo_repealedShare_13 : decode m_mo_repealedShare.2.2.1 13 = .ok (.istore_n 2, 1) := by decide +kernel
theorem d_mo_repealedShare_14 : decode m_mo_repealedShare.2.2.1 14 = .ok (.iconst 0, 1) := by decide +kernel
theorem d_mo_repealedShare_15 : decode m_mo_repealedShare.2.2.1 15 = .ok (.istore_n 3, 1) := by decide +kernel
theorem d_mo_repealedShare_16 : decode m_mo_repealedShare.2.2.1 16 = .ok (.iload_n 3, 1) := by decide +kernel
theorem d_mo_repealedShare_17 : decode m_mo_repealedShare.2.2.1 17 = .ok (.aload_n 0, 1) := by decide +kernel
theorem d_mo_repealedShare_18 : decode m_mo_repealedShare.2.2.1 18 = .ok (.getfield 148, 3) := by decide +kernel
theorem d_mo_repealedShare_21 : decode m_mo_repealedShare.2.2.1 21 = .ok (.if_icmp .ge 31, 3) := by decide +kernel
theorem d_mo_repealedShare_24 : decode m_mo_repealedShare.2.2.1 24 = .ok (.iload_n 2, 1) := by decide +kernel
theorem d_mo_repealedShare_25 : decode m_mo_repealedShare.2.2.1 25 = .ok (.aload_n 0, 1) := by decide +kernel
theorem d_mo_repealedShare_26 : decode m_mo_repealedShare.2.2.1 26 = .ok (.getfield 58, 3) := by decide +kernel
theorem d_mo_repealedShare_29 : decode m_mo_repealedShare.2.2.1 29 = .ok (.aload_n 0, 1) := by decide +kernel
theorem d_mo_repealedShare_30 : decode m_mo_repealedShare.2.2.1 30 = .ok (.getfield 65, 3) := by decide +kernel
theorem d_mo_repealedShare_33 : decode m_mo_repealedShare.2.2.1 33 = .ok (.iload_n 3, 1) := by decide +kernel
theorem d_mo_repealedShare_34 : decode m_mo_repealedShare.2.2.1 34 = .ok (.iaload, 1) := by decide +kernel
theorem d_mo_repealedShare_35 : decode m_mo_repealedShare.2.2.1 35 = .ok (.baload, 1) := by decide +kernel
theorem d_mo_repealedShare_36 : decode m_mo_repealedShare.2.2.1 36 = .ok (.ifCond .eq 7, 3) := by decide +kernel
theorem d_mo_repealedShare_39 : decode m_mo_repealedShare.2.2.1 39 = .ok (.iconst 1, 1) := by decide +kernel
theorem d_mo_repealedShare_40 : decode m_mo_repealedShare.2.2.1 40 = .ok (.goto 4, 3) := by decide +kernel
theorem d_mo_repealedShare_43 : decode m_mo_repealedShare.2.2.1 43 = .ok (.iconst 0, 1) := by decide +kernel
theorem d_mo_repealedShare_44 : decode m_mo_repealedShare.2.2.1 44 = .ok (.iadd, 1) := by decide +kernel
theorem d_mo_repealedShare_45 : decode m_mo_repealedShare.2.2.1 45 = .ok (.istore_n 2, 1) := by decide +kernel
theorem d_mo_repealedShare_46 : decode m_mo_repealedShare.2.2.1 46 = .ok (.iinc 3 1, 3) := by decide +kernel
theorem d_mo_repealedShare_49 : decode m_mo_repealedShare.2.2.1 49 = .ok (.goto (-33), 3) := by decide +kernel
theorem d_mo_repealedShare_52 : decode m_mo_repealedShare.2.2.1 52 = .ok (.iload_n 2, 1) := by decide +kernel
theorem d_mo_repealedShare_53 : decode m_mo_repealedShare.2.2.1 53 = .ok (.i2d, 1) := by decide +kernel
theorem d_mo_repealedShare_54 : decode m_mo_repealedShare.2.2.1 54 = .ok (.aload_n 0, 1) := by decide +kernel
theorem d_mo_repealedShare_55 : decode m_mo_repealedShare.2.2.1 55 = .ok (.getfield 148, 3) := by decide +kernel
theorem d_mo_repealedShare_58 : decode m_mo_repealedShare.2.2.1 58 = .ok (.i2d, 1) := by decide +kernel
theorem d_mo_repealedShare_59 : decode m_mo_repealedShare.2.2.1 59 = .ok (.ddiv, 1) := by decide +kernel
theorem d_mo_repealedShare_60 : decode m_mo_repealedShare.2.2.1 60 = .ok (.invokestatic 368, 3) := by decide +kernel
theorem d_mo_repealedShare_63 : decode m_mo_repealedShare.2.2.1 63 = .ok (.lreturn, 1) := by decide +kernel
theorem d_mo_emptyRow_0 : decode m_mo_emptyRow3.2.2.1 0 = .ok (.iload_n 0, 1) := by decide +kernel
theorem d_mo_emptyRow_1 : decode m_mo_emptyRow3.2.2.1 1 = .ok (.newarray .int, 2) := by decide +kernel
theorem d_mo_emptyRow_3 : decode m_mo_emptyRow3.2.2.1 3 = .ok (.astore_n 1, 1) := by decide +kernel
theorem d_mo_emptyRow_4 : decode m_mo_emptyRow3.2.2.1 4 = .ok (.iconst 0, 1) := by decide +kernel
theorem d_mo_emptyRow_5 : decode m_mo_emptyRow3.2.2.1 5 = .ok (.istore_n 2, 1) := by decide +kernel
theorem d_mo_emptyRow_6 : decode m_mo_emptyRow3.2.2.1 6 = .ok (.iload_n 2, 1) := by decide +kernel
theorem d_mo_emptyRow_7 : decode m_mo_emptyRow3.2.2.1 7 = .ok (.iload_n 0, 1) := by decide +kernel
theorem d_mo_emptyRow_8 : decode m_mo_emptyRow3.2.2.1 8 = .ok (.if_icmp .ge 13, 3) := by decide +kernel
theorem d_mo_emptyRow_11 : decode m_mo_emptyRow3.2.2.1 11 = .ok (.aload_n 1, 1) := by decide +kernel
theorem d_mo_emptyRow_12 : decode m_mo_emptyRow3.2.2.1 12 = .ok (.iload_n 2, 1) := by decide +kernel
theorem d_mo_emptyRow_13 : decode m_mo_emptyRow3.2.2.1 13 = .ok (.iconst (-1), 1) := by decide +kernel
theorem d_mo_emptyRow_14 : decode m_mo_emptyRow3.2.2.1 14 = .ok (.iastore, 1) := by decide +kernel
theorem d_mo_emptyRow_15 : decode m_mo_emptyRow3.2.2.1 15 = .ok (.iinc 2 1, 3) := by decide +kernel
theorem d_mo_emptyRow_18 : decode m_mo_emptyRow3.2.2.1 18 = .ok (.goto (-12), 3) := by decide +kernel
theorem d_mo_emptyRow_21 : decode m_mo_emptyRow3.2.2.1 21 = .ok (.aload_n 1, 1) := by decide +kernel
theorem d_mo_emptyRow_22 : decode m_mo_emptyRow3.2.2.1 22 = .ok (.areturn, 1) := by decide +kernel
theorem d_mo_emptyShelves_0 : decode m_mo_emptyShelves.2.2.1 0 = .ok (.iconst 0, 1) := by decide +kernel
theorem d_mo_emptyShelves_1 : decode m_mo_emptyShelves.2.2.1 1 = .ok (.istore_n 1, 1) := by decide +kernel
theorem d_mo_emptyShelves_2 : decode m_mo_emptyShelves.2.2.1 2 = .ok (.iload_n 1, 1) := by decide +kernel
theorem d_mo_emptyShelves_3 : decode m_mo_emptyShelves.2.2.1 3 = .ok (.iconst 3, 1) := by decide +kernel
theorem d_mo_emptyShelves_4 : decode m_mo_emptyShelves.2.2.1 4 = .ok (.if_icmp .ge 16, 3) := by decide +kernel
theorem d_mo_emptyShelves_7 : decode m_mo_emptyShelves.2.2.1 7 = .ok (.aload_n 0, 1) := by decide +kernel
theorem d_mo_emptyShelves_8 : decode m_mo_emptyShelves.2.2.1 8 = .ok (.getfield 105, 3) := by decide +kernel
theorem d_mo_emptyShelves_11 : decode m_mo_emptyShelves.2.2.1 11 = .ok (.iload_n 1, 1) := by decide +kernel
theorem d_mo_emptyShelves_12 : decode m_mo_emptyShelves.2.2.1 12 = .ok (.iconst (-1), 1) := by decide +kernel
theorem d_mo_emptyShelves_13 : decode m_mo_emptyShelves.2.2.1 13 = .ok (.iastore, 1) := by decide +kernel
theorem d_mo_emptyShelves_14 : decode m_mo_emptyShelves.2.2.1 14 = .ok (.iinc 1 1, 3) := by decide +kernel
theorem d_mo_emptyShelves_17 : decode m_mo_emptyShelves.2.2.1 17 = .ok (.goto (-15), 3) := by decide +kernel
theorem d_mo_emptyShelves_20 : decode m_mo_emptyShelves.2.2.1 20 = .ok (.return_, 1) := by decide +kernel
theorem d_mo_isShelf_0 : decode m_mo_isShelf.2.2.1 0 = .ok (.iload_n 0, 1) := by decide +kernel
theorem d_mo_isShelf_1 : decode m_mo_isShelf.2.2.1 1 = .ok (.iconst 0, 1) := by decide +kernel
theorem d_mo_isShelf_2 : decode m_mo_isShelf.2.2.1 2 = .ok (.iconst 2, 1) := by decide +kernel
theorem d_mo_isShelf_3 : decode m_mo_isShelf.2.2.1 3 = .ok (.invokestatic 189, 3) := by decide +kernel
theorem d_mo_isShelf_6 : decode m_mo_isShelf.2.2.1 6 = .ok (.ireturn, 1) := by decide +kernel
theorem d_mo_newShelf_0 : decode m_mo_newShelf.2.2.1 0 = .ok (.iload_n 1, 1) := by decide +kernel
theorem d_mo_newShelf_1 : decode m_mo_newShelf.2.2.1 1 = .ok (.invokestatic 374, 3) := by decide +kernel
theorem d_mo_newShelf_4 : decode m_mo_newShelf.2.2.1 4 = .ok (.ifCond .eq 18, 3) := by decide +kernel
theorem d_mo_newShelf_7 : decode m_mo_newShelf.2.2.1 7 = .ok (.iload_n 2, 1) := by decide +kernel
theorem d_mo_newShelf_8 : decode m_mo_newShelf.2.2.1 8 = .ok (.iconst 0, 1) := by decide +kernel
theorem d_mo_newShelf_9 : decode m_mo_newShelf.2.2.1 9 = .ok (.iconst 3, 1) := by decide +kernel
theorem d_mo_newShelf_10 : decode m_mo_newShelf.2.2.1 10 = .ok (.invokestatic 189, 3) := by decide +kernel
theorem d_mo_newShelf_13 : decode m_mo_newShelf.2.2.1 13 = .ok (.ifCond .eq 9, 3) := by decide +kernel
theorem d_mo_newShelf_16 : decode m_mo_newShelf.2.2.1 16 = .ok (.iload_n 3, 1) := by decide +kernel
theorem d_mo_newShelf_17 : decode m_mo_newShelf.2.2.1 17 = .ok (.bipush 10, 2) := by decide +kernel
theorem d_mo_newShelf_19 : decode m_mo_newShelf.2.2.1 19 = .ok (.if_icmp .le 6, 3) := by decide +kernel
theorem d_mo_newShelf_22 : decode m_mo_newShelf.2.2.1 22 = .ok (.bipush (-5), 2) := by decide +kernel
theorem d_mo_newShelf_24 : decode m_mo_newShelf.2.2.1 24 = .ok (.ireturn, 1) := by decide +kernel
theorem d_mo_newShelf_25 : decode m_mo_newShelf.2.2.1 25 = .ok (.iload_n 3, 1) := by decide +kernel
theorem d_mo_newShelf_26 : decode m_mo_newShelf.2.2.1 26 = .ok (.ifCond .ge 6, 3) := by decide +kernel
theorem d_mo_newShelf_29 : decode m_mo_newShelf.2.2.1 29 = .ok (.bipush (-14), 2) := by decide +kernel
theorem d_mo_newShelf_31 : decode m_mo_newShelf.2.2.1 31 = .ok (.ireturn, 1) := by decide +kernel
theorem d_mo_newShelf_32 : decode m_mo_newShelf.2.2.1 32 = .ok (.aload_n 0, 1) := by decide +kernel
theorem d_mo_newShelf_33 : decode m_mo_newShelf.2.2.1 33 = .ok (.getfield 105, 3) := by decide +kernel
theorem d_mo_newShelf_36 : decode m_mo_newShelf.2.2.1 36 = .ok (.iload_n 1, 1) := by decide +kernel
theorem d_mo_newShelf_37 : decode m_mo_newShelf.2.2.1 37 = .ok (.iload_n 2, 1) := by decide +kernel
theorem d_mo_newShelf_38 : decode m_mo_newShelf.2.2.1 38 = .ok (.iastore, 1) := by decide +kernel
theorem d_mo_newShelf_39 : decode m_mo_newShelf.2.2.1 39 = .ok (.aload_n 0, 1) := by decide +kernel
theorem d_mo_newShelf_40 : decode m_mo_newShelf.2.2.1 40 = .ok (.getfield 108, 3) := by decide +kernel
theorem d_mo_newShelf_43 : decode m_mo_newShelf.2.2.1 43 = .ok (.iload_n 1, 1) := by decide +kernel
theorem d_mo_newShelf_44 : decode m_mo_newShelf.2.2.1 44 = .ok (.iload_n 3, 1) := by decide +kernel
theorem d_mo_newShelf_45 : decode m_mo_newShelf.2.2.1 45 = .ok (.iastore, 1) := by decide +kernel
theorem d_mo_newShelf_46 : decode m_mo_newShelf.2.2.1 46 = .ok (.iconst 0, 1) := by decide +kernel
theorem d_mo_newShelf_47 : decode m_mo_newShelf.2.2.1 47 = .ok (.istore 4, 2) := by decide +kernel
theorem d_mo_newShelf_49 : decode m_mo_newShelf.2.2.1 49 = .ok (.iload 4, 2) := by decide +kernel
theorem d_mo_newShelf_51 : decode m_mo_newShelf.2.2.1 51 = .ok (.bipush 10, 2) := by decide +kernel
theorem d_mo_newShelf_53 : decode m_mo_newShelf.2.2.1 53 = .ok (.if_icmp .ge 22, 3) := by decide +kernel
theorem d_mo_newShelf_56 : decode m_mo_newShelf.2.2.1 56 = .ok (.aload_n 0, 1) := by decide +kernel
theorem d_mo_newShelf_57 : decode m_mo_newShelf.2.2.1 57 = .ok (.getfield 111, 3) := by decide +kernel
theorem d_mo_newShelf_60 : decode m_mo_newShelf.2.2.1 60 = .ok (.bipush 10, 2) := by decide +kernel
theorem d_mo_newShelf_62 : decode m_mo_newShelf.2.2.1 62 = .ok (.iload_n 1, 1) := by decide +kernel
theorem d_mo_newShelf_63 : decode m_mo_newShelf.2.2.1 63 = .ok (.imul, 1) := by decide +kernel
theorem d_mo_newShelf_64 : decode m_mo_newShelf.2.2.1 64 = .ok (.iload 4, 2) := by decide +kernel
theorem d_mo_newShelf_66 : decode m_mo_newShelf.2.2.1 66 = .ok (.iadd, 1) := by decide +kernel
theorem d_mo_newShelf_67 : decode m_mo_newShelf.2.2.1 67 = .ok (.iconst (-1), 1) := by decide +kernel
theorem d_mo_newShelf_68 : decode m_mo_newShelf.2.2.1 68 = .ok (.iastore, 1) := by decide +kernel
theorem d_mo_newShelf_69 : decode m_mo_newShelf.2.2.1 69 = .ok (.iinc 4 1, 3) := by decide +kernel
theorem d_mo_newShelf_72 : decode m_mo_newShelf.2.2.1 72 = .ok (.goto (-23), 3) := by decide +kernel
theorem d_mo_newShelf_75 : decode m_mo_newShelf.2.2.1 75 = .ok (.iconst 1, 1) := by decide +kernel
theorem d_mo_newShelf_76 : decode m_mo_newShelf.2.2.1 76 = .ok (.ireturn, 1) := by decide +kernel
theorem d_mo_place_0 : decode m_mo_place.2.2.1 0 = .ok (.iload_n 1, 1) := by decide +kernel
theorem d_mo_place_1 : decode m_mo_place.2.2.1 1 = .ok (.invokestatic 374, 3) := by decide +kernel
theorem d_mo_place_4 : decode m_mo_place.2.2.1 4 = .ok (.ifCond .ne 6, 3) := by decide +kernel
theorem d_mo_place_7 : decode m_mo_place.2.2.1 7 = .ok (.bipush (-5), 2) := by decide +kernel
theorem d_mo_place_9 : decode m_mo_place.2.2.1 9 = .ok (.ireturn, 1) := by decide +kernel
theorem d_mo_place_10 : decode m_mo_place.2.2.1 10 = .ok (.aload_n 0, 1) := by decide +kernel
theorem d_mo_place_11 : decode m_mo_place.2.2.1 11 = .ok (.iload_n 3, 1) := by decide +kernel
theorem d_mo_place_12 : decode m_mo_place.2.2.1 12 = .ok (.invokevirtual 193, 3) := by decide +kernel
theorem d_mo_place_15 : decode m_mo_place.2.2.1 15 = .ok (.ifCond .ne 5, 3) := by decide +kernel
theorem d_mo_place_18 : decode m_mo_place.2.2.1 18 = .ok (.iconst (-1), 1) := by decide +kernel
theorem d_mo_place_19 : decode m_mo_place.2.2.1 19 = .ok (.ireturn, 1) := by decide +kernel
theorem d_mo_place_20 : decode m_mo_place.2.2.1 20 = .ok (.aload_n 0, 1) := by decide +kernel
theorem d_mo_place_21 : decode m_mo_place.2.2.1 21 = .ok (.getfield 105, 3) := by decide +kernel
theorem d_mo_place_24 : decode m_mo_place.2.2.1 24 = .ok (.iload_n 1, 1) := by decide +kernel
theorem d_mo_place_25 : decode m_mo_place.2.2.1 25 = .ok (.iaload, 1) := by decide +kernel
theorem d_mo_place_26 : decode m_mo_place.2.2.1 26 = .ok (.ifCond .ge 6, 3) := by decide +kernel
theorem d_mo_place_29 : decode m_mo_place.2.2.1 29 = .ok (.bipush (-11), 2) := by decide +kernel
theorem d_mo_place_31 : decode m_mo_place.2.2.1 31 = .ok (.ireturn, 1) := by decide +kernel
theorem d_mo_place_32 : decode m_mo_place.2.2.1 32 = .ok (.iload_n 2, 1) := by decide +kernel
theorem d_mo_place_33 : decode m_mo_place.2.2.1 33 = .ok (.iconst 0, 1) := by decide +kernel
theorem d_mo_place_34 : decode m_mo_place.2.2.1 34 = .ok (.aload_n 0, 1) := by decide +kernel
theorem d_mo_place_35 : decode m_mo_place.2.2.1 35 = .ok (.getfield 108, 3) := by decide +kernel
theorem d_mo_place_38 : decode m_mo_place.2.2.1 38 = .ok (.iload_n 1, 1) := by decide +kernel
theorem d_mo_place_39 : decode m_mo_place.2.2.1 39 = .ok (.iaload, 1) := by decide +kernel
theorem d_mo_place_40 : decode m_mo_place.2.2.1 40 = .ok (.iconst 1, 1) := by decide +kernel
theorem d_mo_place_41 : decode m_mo_place.2.2.1 41 = .ok (.isub, 1) := by decide +kernel
theorem d_mo_place_42 : decode m_mo_place.2.2.1 42 = .ok (.invokestatic 189, 3) := by decide +kernel
theorem d_mo_place_45 : decode m_mo_place.2.2.1 45 = .ok (.ifCond .ne 6, 3) := by decide +kernel
theorem d_mo_place_48 : decode m_mo_place.2.2.1 48 = .ok (.bipush (-12), 2) := by decide +kernel
theorem d_mo_place_50 : decode m_mo_place.2.2.1 50 = .ok (.ireturn, 1) := by decide +kernel
theorem d_mo_place_51 : decode m_mo_place.2.2.1 51 = .ok (.aload_n 0, 1) := by decide +kernel
theorem d_mo_place_52 : decode m_mo_place.2.2.1 52 = .ok (.getfield 105, 3) := by decide +kernel
theorem d_mo_place_55 : decode m_mo_place.2.2.1 55 = .ok (.iload_n 1, 1) := by decide +kernel
theorem d_mo_place_56 : decode m_mo_place.2.2.1 56 = .ok (.iaload, 1) := by decide +kernel
theorem d_mo_place_57 : decode m_mo_place.2.2.1 57 = .ok (.ifCond .le 20, 3) := by decide +kernel
theorem d_mo_place_60 : decode m_mo_place.2.2.1 60 = .ok (.aload_n 0, 1) := by decide +kernel
theorem d_mo_place_61 : decode m_mo_place.2.2.1 61 = .ok (.getfield 105, 3) := by decide +kernel
theorem d_mo_place_64 : decode m_mo_place.2.2.1 64 = .ok (.iload_n 1, 1) := by decide +kernel
theorem d_mo_place_65 : decode m_mo_place.2.2.1 65 = .ok (.iaload, 1) := by decide +kernel
theorem d_mo_place_66 : decode m_mo_place.2.2.1 66 = .ok (.aload_n 0, 1) := by decide +kernel
theorem d_mo_place_67 : decode m_mo_place.2.2.1 67 = .ok (.iload_n 3, 1) := by decide +kernel
theorem d_mo_place_68 : decode m_mo_place.2.2.1 68 = .ok (.invokevirtual 157, 3) := by decide +kernel
theorem d_mo_place_71 : decode m_mo_place.2.2.1 71 = .ok (.if_icmp .eq 6, 3) := by decide +kernel
theorem d_mo_place_74 : decode m_mo_place.2.2.1 74 = .ok (.bipush (-13), 2) := by decide +kernel
theorem d_mo_place_76 : decode m_mo_place.2.2.1 76 = .ok (.ireturn, 1) := by decide +kernel
theorem d_mo_place_77 : decode m_mo_place.2.2.1 77 = .ok (.aload_n 0, 1) := by decide +kernel
theorem d_mo_place_78 : decode m_mo_place.2.2.1 78 = .ok (.getfield 111, 3) := by decide +kernel
theorem d_mo_place_81 : decode m_mo_place.2.2.1 81 = .ok (.bipush 10, 2) := by decide +kernel
theorem d_mo_place_83 : decode m_mo_place.2.2.1 83 = .ok (.iload_n 1, 1) := by decide +kernel
theorem d_mo_place_84 : decode m_mo_place.2.2.1 84 = .ok (.imul, 1) := by decide +kernel
theorem d_mo_place_85 : decode m_mo_place.2.2.1 85 = .ok (.iload_n 2, 1) := by decide +kernel
theorem d_mo_place_86 : decode m_mo_place.2.2.1 86 = .ok (.iadd, 1) := by decide +kernel
theorem d_mo_place_87 : decode m_mo_place.2.2.1 87 = .ok (.iload_n 3, 1) := by decide +kernel
theorem d_mo_place_88 : decode m_mo_place.2.2.1 88 = .ok (.iastore, 1) := by decide +kernel
theorem d_mo_place_89 : decode m_mo_place.2.2.1 89 = .ok (.iconst 1, 1) := by decide +kernel
theorem d_mo_place_90 : decode m_mo_place.2.2.1 90 = .ok (.ireturn, 1) := by decide +kernel
theorem d_mo_shelved_0 : decode m_mo_shelved.2.2.1 0 = .ok (.iload_n 1, 1) := by decide +kernel
theorem d_mo_shelved_1 : decode m_mo_shelved.2.2.1 1 = .ok (.invokestatic 374, 3) := by decide +kernel
theorem d_mo_shelved_4 : decode m_mo_shelved.2.2.1 4 = .ok (.ifCond .ne 6, 3) := by decide +kernel
theorem d_mo_shelved_7 : decode m_mo_shelved.2.2.1 7 = .ok (.bipush (-5), 2) := by decide +kernel
theorem d_mo_shelved_9 : decode m_mo_shelved.2.2.1 9 = .ok (.ireturn, 1) := by decide +kernel
theorem d_mo_shelved_10 : decode m_mo_shelved.2.2.1 10 = .ok (.aload_n 0, 1) := by decide +kernel
theorem d_mo_shelved_11 : decode m_mo_shelved.2.2.1 11 = .ok (.getfield 105, 3) := by decide +kernel
theorem d_mo_shelved_14 : decode m_mo_shelved.2.2.1 14 = .ok (.iload_n 1, 1) := by decide +kernel
theorem d_mo_shelved_15 : decode m_mo_shelved.2.2.1 15 = .ok (.iaload, 1) := by decide +kernel
theorem d_mo_shelved_16 : decode m_mo_shelved.2.2.1 16 = .ok (.ifCond .ge 6, 3) := by decide +kernel
theorem d_mo_shelved_19 : decode m_mo_shelved.2.2.1 19 = .ok (.bipush (-11), 2) := by decide +kernel
theorem d_mo_shelved_21 : decode m_mo_shelved.2.2.1 21 = .ok (.ireturn, 1) := by decide +kernel
theorem d_mo_shelved_22 : decode m_mo_shelved.2.2.1 22 = .ok (.iload_n 2, 1) := by decide +kernel
theorem d_mo_shelved_23 : decode m_mo_shelved.2.2.1 23 = .ok (.iconst 0, 1) := by decide +kernel
theorem d_mo_shelved_24 : decode m_mo_shelved.2.2.1 24 = .ok (.aload_n 0, 1) := by decide +kernel
theorem d_mo_shelved_25 : decode m_mo_shelved.2.2.1 25 = .ok (.getfield 108, 3) := by decide +kernel
theorem d_mo_shelved_28 : decode m_mo_shelved.2.2.1 28 = .ok (.iload_n 1, 1) := by decide +kernel
theorem d_mo_shelved_29 : decode m_mo_shelved.2.2.1 29 = .ok (.iaload, 1) := by decide +kernel
theorem d_mo_shelved_30 : decode m_mo_shelved.2.2.1 30 = .ok (.iconst 1, 1) := by decide +kernel
theorem d_mo_shelved_31 : decode m_mo_shelved.2.2.1 31 = .ok (.isub, 1) := by decide +kernel
theorem d_mo_shelved_32 : decode m_mo_shelved.2.2.1 32 = .ok (.invokestatic 189, 3) := by decide +kernel
theorem d_mo_shelved_35 : decode m_mo_shelved.2.2.1 35 = .ok (.ifCond .ne 6, 3) := by decide +kernel
theorem d_mo_shelved_38 : decode m_mo_shelved.2.2.1 38 = .ok (.bipush (-12), 2) := by decide +kernel
theorem d_mo_shelved_40 : decode m_mo_shelved.2.2.1 40 = .ok (.ireturn, 1) := by decide +kernel
theorem d_mo_shelved_41 : decode m_mo_shelved.2.2.1 41 = .ok (.aload_n 0, 1) := by decide +kernel
theorem d_mo_shelved_42 : decode m_mo_shelved.2.2.1 42 = .ok (.getfield 111, 3) := by decide +kernel
theorem d_mo_shelved_45 : decode m_mo_shelved.2.2.1 45 = .ok (.bipush 10, 2) := by decide +kernel
theorem d_mo_shelved_47 : decode m_mo_shelved.2.2.1 47 = .ok (.iload_n 1, 1) := by decide +kernel
theorem d_mo_shelved_48 : decode m_mo_shelved.2.2.1 48 = .ok (.imul, 1) := by decide +kernel
theorem d_mo_shelved_49 : decode m_mo_shelved.2.2.1 49 = .ok (.iload_n 2, 1) := by decide +kernel
theorem d_mo_shelved_50 : decode m_mo_shelved.2.2.1 50 = .ok (.iadd, 1) := by decide +kernel
theorem d_mo_shelved_51 : decode m_mo_shelved.2.2.1 51 = .ok (.iaload, 1) := by decide +kernel
theorem d_mo_shelved_52 : decode m_mo_shelved.2.2.1 52 = .ok (.istore_n 3, 1) := by decide +kernel
theorem d_mo_shelved_53 : decode m_mo_shelved.2.2.1 53 = .ok (.iload_n 3, 1) := by decide +kernel
theorem d_mo_shelved_54 : decode m_mo_shelved.2.2.1 54 = .ok (.ifCond .ge 8, 3) := by decide +kernel
theorem d_mo_shelved_57 : decode m_mo_shelved.2.2.1 57 = .ok (.bipush (-11), 2) := by decide +kernel
theorem d_mo_shelved_59 : decode m_mo_shelved.2.2.1 59 = .ok (.goto 4, 3) := by decide +kernel
theorem d_mo_shelved_62 : decode m_mo_shelved.2.2.1 62 = .ok (.iload_n 3, 1) := by decide +kernel
theorem d_mo_shelved_63 : decode m_mo_shelved.2.2.1 63 = .ok (.ireturn, 1) := by decide +kernel
theorem d_mo_copyShelf_0 : decode m_mo_copyShelf.2.2.1 0 = .ok (.iload_n 1, 1) := by decide +kernel
theorem d_mo_copyShelf_1 : decode m_mo_copyShelf.2.2.1 1 = .ok (.invokestatic 374, 3) := by decide +kernel
theorem d_mo_copyShelf_4 : decode m_mo_copyShelf.2.2.1 4 = .ok (.ifCond .eq 10, 3) := by decide +kernel
theorem d_mo_copyShelf_7 : decode m_mo_copyShelf.2.2.1 7 = .ok (.iload_n 2, 1) := by decide +kernel
theorem d_mo_copyShelf_8 : decode m_mo_copyShelf.2.2.1 8 = .ok (.invokestatic 374, 3) := by decide +kernel
theorem d_mo_copyShelf_11 : decode m_mo_copyShelf.2.2.1 11 = .ok (.ifCond .ne 6, 3) := by decide +kernel
theorem d_mo_copyShelf_14 : decode m_mo_copyShelf.2.2.1 14 = .ok (.bipush (-5), 2) := by decide +kernel
theorem d_mo_copyShelf_16 : decode m_mo_copyShelf.2.2.1 16 = .ok (.ireturn, 1) := by decide +kernel
theorem d_mo_copyShelf_17 : decode m_mo_copyShelf.2.2.1 17 = .ok (.aload_n 0, 1) := by decide +kernel
theorem d_mo_copyShelf_18 : decode m_mo_copyShelf.2.2.1 18 = .ok (.getfield 105, 3) := by decide +kernel
theorem d_mo_copyShelf_21 : decode m_mo_copyShelf.2.2.1 21 = .ok (.iload_n 1, 1) := by decide +kernel
theorem d_mo_copyShelf_22 : decode m_mo_copyShelf.2.2.1 22 = .ok (.iaload, 1) := by decide +kernel
theorem d_mo_copyShelf_23 : decode m_mo_copyShelf.2.2.1 23 = .ok (.ifCond .ge 6, 3) := by decide +kernel
theorem d_mo_copyShelf_26 : decode m_mo_copyShelf.2.2.1 26 = .ok (.bipush (-11), 2) := by decide +kernel
theorem d_mo_copyShelf_28 : decode m_mo_copyShelf.2.2.1 28 = .ok (.ireturn, 1) := by decide +kernel
theorem d_mo_copyShelf_29 : decode m_mo_copyShelf.2.2.1 29 = .ok (.aload_n 0, 1) := by decide +kernel
theorem d_mo_copyShelf_30 : decode m_mo_copyShelf.2.2.1 30 = .ok (.getfield 105, 3) := by decide +kernel
theorem d_mo_copyShelf_33 : decode m_mo_copyShelf.2.2.1 33 = .ok (.iload_n 2, 1) := by decide +kernel
theorem d_mo_copyShelf_34 : decode m_mo_copyShelf.2.2.1 34 = .ok (.aload_n 0, 1) := by decide +kernel
theorem d_mo_copyShelf_35 : decode m_mo_copyShelf.2.2.1 35 = .ok (.getfield 105, 3) := by decide +kernel
theorem d_mo_copyShelf_38 : decode m_mo_copyShelf.2.2.1 38 = .ok (.iload_n 1, 1) := by decide +kernel
theorem d_mo_copyShelf_39 : decode m_mo_copyShelf.2.2.1 39 = .ok (.iaload, 1) := by decide +kernel
theorem d_mo_copyShelf_40 : decode m_mo_copyShelf.2.2.1 40 = .ok (.iastore, 1) := by decide +kernel
theorem d_mo_copyShelf_41 : decode m_mo_copyShelf.2.2.1 41 = .ok (.aload_n 0, 1) := by decide +kernel
theorem d_mo_copyShelf_42 : decode m_mo_copyShelf.2.2.1 42 = .ok (.getfield 108, 3) := by decide +kernel
theorem d_mo_copyShelf_45 : decode m_mo_copyShelf.2.2.1 45 = .ok (.iload_n 2, 1) := by decide +kernel
theorem d_mo_copyShelf_46 : decode m_mo_copyShelf.2.2.1 46 = .ok (.aload_n 0, 1) := by decide +kernel
theorem d_mo_copyShelf_47 : decode m_mo_copyShelf.2.2.1 47 = .ok (.getfield 108, 3) := by decide +kernel
theorem d_mo_copyShelf_50 : decode m_mo_copyShelf.2.2.1 50 = .ok (.iload_n 1, 1) := by decide +kernel
theorem d_mo_copyShelf_51 : decode m_mo_copyShelf.2.2.1 51 = .ok (.iaload, 1) := by decide +kernel
theorem d_mo_copyShelf_52 : decode m_mo_copyShelf.2.2.1 52 = .ok (.iastore, 1) := by decide +kernel
theorem d_mo_copyShelf_53 : decode m_mo_copyShelf.2.2.1 53 = .ok (.aload_n 0, 1) := by decide +kernel
theorem d_mo_copyShelf_54 : decode m_mo_copyShelf.2.2.1 54 = .ok (.getfield 111, 3) := by decide +kernel
theorem d_mo_copyShelf_57 : decode m_mo_copyShelf.2.2.1 57 = .ok (.bipush 10, 2) := by decide +kernel
theorem d_mo_copyShelf_59 : decode m_mo_copyShelf.2.2.1 59 = .ok (.iload_n 1, 1) := by decide +kernel
theorem d_mo_copyShelf_60 : decode m_mo_copyShelf.2.2.1 60 = .ok (.imul, 1) := by decide +kernel
theorem d_mo_copyShelf_61 : decode m_mo_copyShelf.2.2.1 61 = .ok (.aload_n 0, 1) := by decide +kernel
theorem d_mo_copyShelf_62 : decode m_mo_copyShelf.2.2.1 62 = .ok (.getfield 111, 3) := by decide +kernel
theorem d_mo_copyShelf_65 : decode m_mo_copyShelf.2.2.1 65 = .ok (.bipush 10, 2) := by decide +kernel
theorem d_mo_copyShelf_67 : decode m_mo_copyShelf.2.2.1 67 = .ok (.iload_n 2, 1) := by decide +kernel
theorem d_mo_copyShelf_68 : decode m_mo_copyShelf.2.2.1 68 = .ok (.imul, 1) := by decide +kernel
theorem d_mo_copyShelf_69 : decode m_mo_copyShelf.2.2.1 69 = .ok (.bipush 10, 2) := by decide +kernel
theorem d_mo_copyShelf_71 : decode m_mo_copyShelf.2.2.1 71 = .ok (.invokestatic 377, 3) := by decide +kernel
theorem d_mo_copyShelf_74 : decode m_mo_copyShelf.2.2.1 74 = .ok (.aload_n 0, 1) := by decide +kernel
theorem d_mo_copyShelf_75 : decode m_mo_copyShelf.2.2.1 75 = .ok (.getfield 108, 3) := by decide +kernel
theorem d_mo_copyShelf_78 : decode m_mo_copyShelf.2.2.1 78 = .ok (.iload_n 1, 1) := by decide +kernel
theorem d_mo_copyShelf_79 : decode m_mo_copyShelf.2.2.1 79 = .ok (.iaload, 1) := by decide +kernel
theorem d_mo_copyShelf_80 : decode m_mo_copyShelf.2.2.1 80 = .ok (.ireturn, 1) := by decide +kernel
theorem d_mo_exchange_0 : decode m_mo_exchange.2.2.1 0 = .ok (.iload_n 2, 1) := by decide +kernel
theorem d_mo_exchange_1 : decode m_mo_exchange.2.2.1 1 = .ok (.ifCond .eq 7, 3) := by decide +kernel
theorem d_mo_exchange_4 : decode m_mo_exchange.2.2.1 4 = .ok (.aload_n 0, 1) := by decide +kernel
theorem d_mo_exchange_5 : decode m_mo_exchange.2.2.1 5 = .ok (.goto 4, 3) := by decide +kernel
theorem d_mo_exchange_8 : decode m_mo_exchange.2.2.1 8 = .ok (.aload_n 1, 1) := by decide +kernel
theorem d_mo_exchange_9 : decode m_mo_exchange.2.2.1 9 = .ok (.iconst 0, 1) := by decide +kernel
theorem d_mo_exchange_10 : decode m_mo_exchange.2.2.1 10 = .ok (.iload_n 2, 1) := by decide +kernel
theorem d_mo_exchange_11 : decode m_mo_exchange.2.2.1 11 = .ok (.ifCond .eq 7, 3) := by decide +kernel
theorem d_mo_exchange_14 : decode m_mo_exchange.2.2.1 14 = .ok (.aload_n 1, 1) := by decide +kernel
theorem d_mo_exchange_15 : decode m_mo_exchange.2.2.1 15 = .ok (.goto 4, 3) := by decide +kernel
theorem d_mo_exchange_18 : decode m_mo_exchange.2.2.1 18 = .ok (.aload_n 0, 1) := by decide +kernel
theorem d_mo_exchange_19 : decode m_mo_exchange.2.2.1 19 = .ok (.iconst 0, 1) := by decide +kernel
theorem d_mo_exchange_20 : decode m_mo_exchange.2.2.1 20 = .ok (.aload_n 0, 1) := by decide +kernel
theorem d_mo_exchange_21 : decode m_mo_exchange.2.2.1 21 = .ok (.arraylength, 1) := by decide +kernel
theorem d_mo_exchange_22 : decode m_mo_exchange.2.2.1 22 = .ok (.invokestatic 377, 3) := by decide +kernel
theorem d_mo_exchange_25 : decode m_mo_exchange.2.2.1 25 = .ok (.return_, 1) := by decide +kernel
theorem d_mo_exchangeAll_0 : decode m_mo_exchangeAll.2.2.1 0 = .ok (.aload_n 0, 1) := by decide +kernel
theorem d_mo_exchangeAll_1 : decode m_mo_exchangeAll.2.2.1 1 = .ok (.getfield 9, 3) := by decide +kernel
theorem d_mo_exchangeAll_4 : decode m_mo_exchangeAll.2.2.1 4 = .ok (.aload_n 0, 1) := by decide +kernel
theorem d_mo_exchangeAll_5 : decode m_mo_exchangeAll.2.2.1 5 = .ok (.getfield 114, 3) := by decide +kernel
theorem d_mo_exchangeAll_8 : decode m_mo_exchangeAll.2.2.1 8 = .ok (.iload_n 1, 1) := by decide +kernel
theorem d_mo_exchangeAll_9 : decode m_mo_exchangeAll.2.2.1 9 = .ok (.invokestatic 383, 3) := by decide +kernel
theorem d_mo_exchangeAll_12 : decode m_mo_exchangeAll.2.2.1 12 = .ok (.aload_n 0, 1) := by decide +kernel
theorem d_mo_exchangeAll_13 : decode m_mo_exchangeAll.2.2.1 13 = .ok (.getfield 13, 3) := by decide +kernel
theorem d_mo_exchangeAll_16 : decode m_mo_exchangeAll.2.2.1 16 = .ok (.aload_n 0, 1) := by decide +kernel
theorem d_mo_exchangeAll_17 : decode m_mo_exchangeAll.2.2.1 17 = .ok (.getfield 117, 3) := by decide +kernel
theorem d_mo_exchangeAll_20 : decode m_mo_exchangeAll.2.2.1 20 = .ok (.iload_n 1, 1) := by decide +kernel
theorem d_mo_exchangeAll_21 : decode m_mo_exchangeAll.2.2.1 21 = .ok (.invokestatic 383, 3) := by decide +kernel
theorem d_mo_exchangeAll_24 : decode m_mo_exchangeAll.2.2.1 24 = .ok (.aload_n 0, 1) := by decide +kernel
theorem d_mo_exchangeAll_25 : decode m_mo_exchangeAll.2.2.1 25 = .ok (.getfield 16, 3) := by decide +kernel
theorem d_mo_exchangeAll_28 : decode m_mo_exchangeAll.2.2.1 28 = .ok (.aload_n 0, 1) := by decide +kernel
theorem d_mo_exchangeAll_29 : decode m_mo_exchangeAll.2.2.1 29 = .ok (.getfield 120, 3) := by decide +kernel
theorem d_mo_exchangeAll_32 : decode m_mo_exchangeAll.2.2.1 32 = .ok (.iload_n 1, 1) := by decide +kernel
theorem d_mo_exchangeAll_33 : decode m_mo_exchangeAll.2.2.1 33 = .ok (.invokestatic 383, 3) := by decide +kernel
theorem d_mo_exchangeAll_36 : decode m_mo_exchangeAll.2.2.1 36 = .ok (.aload_n 0, 1) := by decide +kernel
theorem d_mo_exchangeAll_37 : decode m_mo_exchangeAll.2.2.1 37 = .ok (.getfield 19, 3) := by decide +kernel
theorem d_mo_exchangeAll_40 : decode m_mo_exchangeAll.2.2.1 40 = .ok (.aload_n 0, 1) := by decide +kernel
theorem d_mo_exchangeAll_41 : decode m_mo_exchangeAll.2.2.1 41 = .ok (.getfield 123, 3) := by decide +kernel
theorem d_mo_exchangeAll_44 : decode m_mo_exchangeAll.2.2.1 44 = .ok (.iload_n 1, 1) := by decide +kernel
theorem d_mo_exchangeAll_45 : decode m_mo_exchangeAll.2.2.1 45 = .ok (.invokestatic 383, 3) := by decide +kernel
theorem d_mo_exchangeAll_48 : decode m_mo_exchangeAll.2.2.1 48 = .ok (.aload_n 0, 1) := by decide +kernel
theorem d_mo_exchangeAll_49 : decode m_mo_exchangeAll.2.2.1 49 = .ok (.getfield 22, 3) := by decide +kernel
theorem d_mo_exchangeAll_52 : decode m_mo_exchangeAll.2.2.1 52 = .ok (.aload_n 0, 1) := by decide +kernel
theorem d_mo_exchangeAll_53 : decode m_mo_exchangeAll.2.2.1 53 = .ok (.getfield 126, 3) := by decide +kernel
theorem d_mo_exchangeAll_56 : decode m_mo_exchangeAll.2.2.1 56 = .ok (.iload_n 1, 1) := by decide +kernel
theorem d_mo_exchangeAll_57 : decode m_mo_exchangeAll.2.2.1 57 = .ok (.invokestatic 383, 3) := by decide +kernel
theorem d_mo_exchangeAll_60 : decode m_mo_exchangeAll.2.2.1 60 = .ok (.aload_n 0, 1) := by decide +kernel
theorem d_mo_exchangeAll_61 : decode m_mo_exchangeAll.2.2.1 61 = .ok (.getfield 25, 3) := by decide +kernel
theorem d_mo_exchangeAll_64 : decode m_mo_exchangeAll.2.2.1 64 = .ok (.aload_n 0, 1) := by decide +kernel
theorem d_mo_exchangeAll_65 : decode m_mo_exchangeAll.2.2.1 65 = .ok (.getfield 129, 3) := by decide +kernel
theorem d_mo_exchangeAll_68 : decode m_mo_exchangeAll.2.2.1 68 = .ok (.iload_n 1, 1) := by decide +kernel
theorem d_mo_exchangeAll_69 : decode m_mo_exchangeAll.2.2.1 69 = .ok (.invokestatic 383, 3) := by decide +kernel
theorem d_mo_exchangeAll_72 : decode m_mo_exchangeAll.2.2.1 72 = .ok (.aload_n 0, 1) := by decide +kernel
theorem d_mo_exchangeAll_73 : decode m_mo_exchangeAll.2.2.1 73 = .ok (.getfield 28, 3) := by decide +kernel
theorem d_mo_exchangeAll_76 : decode m_mo_exchangeAll.2.2.1 76 = .ok (.aload_n 0, 1) := by decide +kernel
theorem d_mo_exchangeAll_77 : decode m_mo_exchangeAll.2.2.1 77 = .ok (.getfield 132, 3) := by decide +kernel
theorem d_mo_exchangeAll_80 : decode m_mo_exchangeAll.2.2.1 80 = .ok (.iload_n 1, 1) := by decide +kernel
theorem d_mo_exchangeAll_81 : decode m_mo_exchangeAll.2.2.1 81 = .ok (.invokestatic 383, 3) := by decide +kernel
theorem d_mo_exchangeAll_84 : decode m_mo_exchangeAll.2.2.1 84 = .ok (.aload_n 0, 1) := by decide +kernel
theorem d_mo_exchangeAll_85 : decode m_mo_exchangeAll.2.2.1 85 = .ok (.getfield 31, 3) := by decide +kernel
theorem d_mo_exchangeAll_88 : decode m_mo_exchangeAll.2.2.1 88 = .ok (.aload_n 0, 1) := by decide +kernel
theorem d_mo_exchangeAll_89 : decode m_mo_exchangeAll.2.2.1 89 = .ok (.getfield 135, 3) := by decide +kernel
theorem d_mo_exchangeAll_92 : decode m_mo_exchangeAll.2.2.1 92 = .ok (.iload_n 1, 1) := by decide +kernel
theorem d_mo_exchangeAll_93 : decode m_mo_exchangeAll.2.2.1 93 = .ok (.invokestatic 383, 3) := by decide +kernel
theorem d_mo_exchangeAll_96 : decode m_mo_exchangeAll.2.2.1 96 = .ok (.aload_n 0, 1) := by decide +kernel
theorem d_mo_exchangeAll_97 : decode m_mo_exchangeAll.2.2.1 97 = .ok (.getfield 34, 3) := by decide +kernel
theorem d_mo_exchangeAll_100 : decode m_mo_exchangeAll.2.2.1 100 = .ok (.aload_n 0, 1) := by decide +kernel
theorem d_mo_exchangeAll_101 : decode m_mo_exchangeAll.2.2.1 101 = .ok (.getfield 138, 3) := by decide +kernel
theorem d_mo_exchangeAll_104 : decode m_mo_exchangeAll.2.2.1 104 = .ok (.iload_n 1, 1) := by decide +kernel
theorem d_mo_exchangeAll_105 : decode m_mo_exchangeAll.2.2.1 105 = .ok (.invokestatic 383, 3) := by decide +kernel
theorem d_mo_exchangeAll_108 : decode m_mo_exchangeAll.2.2.1 108 = .ok (.aload_n 0, 1) := by decide +kernel
theorem d_mo_exchangeAll_109 : decode m_mo_exchangeAll.2.2.1 109 = .ok (.getfield 37, 3) := by decide +kernel
theorem d_mo_exchangeAll_112 : decode m_mo_exchangeAll.2.2.1 112 = .ok (.aload_n 0, 1) := by decide +kernel
theorem d_mo_exchangeAll_113 : decode m_mo_exchangeAll.2.2.1 113 = .ok (.getfield 141, 3) := by decide +kernel
theorem d_mo_exchangeAll_116 : decode m_mo_exchangeAll.2.2.1 116 = .ok (.iload_n 1, 1) := by decide +kernel
theorem d_mo_exchangeAll_117 : decode m_mo_exchangeAll.2.2.1 117 = .ok (.invokestatic 383, 3) := by decide +kernel
theorem d_mo_exchangeAll_120 : decode m_mo_exchangeAll.2.2.1 120 = .ok (.return_, 1) := by decide +kernel
theorem d_mo_saveSnapshot_0 : decode m_mo_saveSnapshot.2.2.1 0 = .ok (.aload_n 0, 1) := by decide +kernel
theorem d_mo_saveSnapshot_1 : decode m_mo_saveSnapshot.2.2.1 1 = .ok (.iconst 1, 1) := by decide +kernel
theorem d_mo_saveSnapshot_2 : decode m_mo_saveSnapshot.2.2.1 2 = .ok (.invokevirtual 387, 3) := by decide +kernel
theorem d_mo_saveSnapshot_5 : decode m_mo_saveSnapshot.2.2.1 5 = .ok (.aload_n 0, 1) := by decide +kernel
theorem d_mo_saveSnapshot_6 : decode m_mo_saveSnapshot.2.2.1 6 = .ok (.aload_n 0, 1) := by decide +kernel
theorem d_mo_saveSnapshot_7 : decode m_mo_saveSnapshot.2.2.1 7 = .ok (.getfield 154, 3) := by decide +kernel
theorem d_mo_saveSnapshot_10 : decode m_mo_saveSnapshot.2.2.1 10 = .ok (.putfield 391, 3) := by decide +kernel
theorem d_mo_saveSnapshot_13 : decode m_mo_saveSnapshot.2.2.1 13 = .ok (.aload_n 0, 1) := by decide +kernel
theorem d_mo_saveSnapshot_14 : decode m_mo_saveSnapshot.2.2.1 14 = .ok (.aload_n 0, 1) := by decide +kernel
theorem d_mo_saveSnapshot_15 : decode m_mo_saveSnapshot.2.2.1 15 = .ok (.getfield 209, 3) := by decide +kernel
theorem d_mo_saveSnapshot_18 : decode m_mo_saveSnapshot.2.2.1 18 = .ok (.putfield 394, 3) := by decide +kernel
theorem d_mo_saveSnapshot_21 : decode m_mo_saveSnapshot.2.2.1 21 = .ok (.aload_n 0, 1) := by decide +kernel
theorem d_mo_saveSnapshot_22 : decode m_mo_saveSnapshot.2.2.1 22 = .ok (.iconst 1, 1) := by decide +kernel
theorem d_mo_saveSnapshot_23 : decode m_mo_saveSnapshot.2.2.1 23 = .ok (.putfield 397, 3) := by decide +kernel
theorem d_mo_saveSnapshot_26 : decode m_mo_saveSnapshot.2.2.1 26 = .ok (.aload_n 0, 1) := by decide +kernel
theorem d_mo_saveSnapshot_27 : decode m_mo_saveSnapshot.2.2.1 27 = .ok (.getfield 154, 3) := by decide +kernel
theorem d_mo_saveSnapshot_30 : decode m_mo_saveSnapshot.2.2.1 30 = .ok (.ireturn, 1) := by decide +kernel
theorem d_mo_restoreSnapshot_0 : decode m_mo_restoreSnapshot.2.2.1 0 = .ok (.aload_n 0, 1) := by decide +kernel
theorem d_mo_restoreSnapshot_1 : decode m_mo_restoreSnapshot.2.2.1 1 = .ok (.getfield 397, 3) := by decide +kernel
theorem d_mo_restoreSnapshot_4 : decode m_mo_restoreSnapshot.2.2.1 4 = .ok (.ifCond .ne 6, 3) := by decide +kernel
theorem d_mo_restoreSnapshot_7 : decode m_mo_restoreSnapshot.2.2.1 7 = .ok (.bipush (-9), 2) := by decide +kernel
theorem d_mo_restoreSnapshot_9 : decode m_mo_restoreSnapshot.2.2.1 9 = .ok (.ireturn, 1) := by decide +kernel
theorem d_mo_restoreSnapshot_10 : decode m_mo_restoreSnapshot.2.2.1 10 = .ok (.aload_n 0, 1) := by decide +kernel
theorem d_mo_restoreSnapshot_11 : decode m_mo_restoreSnapshot.2.2.1 11 = .ok (.iconst 0, 1) := by decide +kernel
theorem d_mo_restoreSnapshot_12 : decode m_mo_restoreSnapshot.2.2.1 12 = .ok (.invokevirtual 387, 3) := by decide +kernel
theorem d_mo_restoreSnapshot_15 : decode m_mo_restoreSnapshot.2.2.1 15 = .ok (.aload_n 0, 1) := by decide +kernel
theorem d_mo_restoreSnapshot_16 : decode m_mo_restoreSnapshot.2.2.1 16 = .ok (.aload_n 0, 1) := by decide +kernel
theorem d_mo_restoreSnapshot_17 : decode m_mo_restoreSnapshot.2.2.1 17 = .ok (.getfield 391, 3) := by decide +kernel
theorem d_mo_restoreSnapshot_20 : decode m_mo_restoreSnapshot.2.2.1 20 = .ok (.putfield 154, 3) := by decide +kernel
theorem d_mo_restoreSnapshot_23 : decode m_mo_restoreSnapshot.2.2.1 23 = .ok (.aload_n 0, 1) := by decide +kernel
theorem d_mo_restoreSnapshot_24 : decode m_mo_restoreSnapshot.2.2.1 24 = .ok (.aload_n 0, 1) := by decide +kernel
theorem d_mo_restoreSnapshot_25 : decode m_mo_restoreSnapshot.2.2.1 25 = .ok (.getfield 394, 3) := by decide +kernel
theorem d_mo_restoreSnapshot_28 : decode m_mo_restoreSnapshot.2.2.1 28 = .ok (.putfield 209, 3) := by decide +kernel
theorem d_mo_restoreSnapshot_31 : decode m_mo_restoreSnapshot.2.2.1 31 = .ok (.aload_n 0, 1) := by decide +kernel
theorem d_mo_restoreSnapshot_32 : decode m_mo_restoreSnapshot.2.2.1 32 = .ok (.invokevirtual 212, 3) := by decide +kernel
theorem d_mo_restoreSnapshot_35 : decode m_mo_restoreSnapshot.2.2.1 35 = .ok (.aload_n 0, 1) := by decide +kernel
theorem d_mo_restoreSnapshot_36 : decode m_mo_restoreSnapshot.2.2.1 36 = .ok (.getfield 154, 3) := by decide +kernel
theorem d_mo_restoreSnapshot_39 : decode m_mo_restoreSnapshot.2.2.1 39 = .ok (.ireturn, 1) := by decide +kernel
