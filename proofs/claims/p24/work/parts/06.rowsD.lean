theorem dJ6_bitCount_0f7a4_46 : decode cJ6_bitCount_0f7a4 46 = .ok (.iadd, 1) := by decide +kernel
theorem dJ6_bitCount_0f7a4_47 : decode cJ6_bitCount_0f7a4 47 = .ok (.istore_n 0, 1) := by decide +kernel
theorem dJ6_bitCount_0f7a4_48 : decode cJ6_bitCount_0f7a4 48 = .ok (.iload_n 0, 1) := by decide +kernel
theorem dJ6_bitCount_0f7a4_49 : decode cJ6_bitCount_0f7a4 49 = .ok (.bipush 63, 2) := by decide +kernel
theorem dJ6_bitCount_0f7a4_51 : decode cJ6_bitCount_0f7a4 51 = .ok (.iand, 1) := by decide +kernel
theorem dJ6_bitCount_0f7a4_52 : decode cJ6_bitCount_0f7a4 52 = .ok (.ireturn, 1) := by decide +kernel
theorem dJ9_max_7cf53_0 : decode cJ9_max_7cf53 0 = .ok (.iload_n 0, 1) := by decide +kernel
theorem dJ9_max_7cf53_1 : decode cJ9_max_7cf53 1 = .ok (.iload_n 1, 1) := by decide +kernel
theorem dJ9_max_7cf53_2 : decode cJ9_max_7cf53 2 = .ok (.if_icmp .lt 7, 3) := by decide +kernel
theorem dJ9_max_7cf53_5 : decode cJ9_max_7cf53 5 = .ok (.iload_n 0, 1) := by decide +kernel
theorem dJ9_max_7cf53_6 : decode cJ9_max_7cf53 6 = .ok (.goto 4, 3) := by decide +kernel
theorem dJ9_max_7cf53_9 : decode cJ9_max_7cf53 9 = .ok (.iload_n 1, 1) := by decide +kernel
theorem dJ9_max_7cf53_10 : decode cJ9_max_7cf53 10 = .ok (.ireturn, 1) := by decide +kernel
theorem dL_cell_0 : decode cL_cell 0 = .ok (.iload_n 1, 1) := by decide +kernel
theorem dL_cell_1 : decode cL_cell 1 = .ok (.aload_n 0, 1) := by decide +kernel
theorem dL_cell_2 : decode cL_cell 2 = .ok (.arraylength, 1) := by decide +kernel
theorem dL_cell_3 : decode cL_cell 3 = .ok (.if_icmp .ge 9, 3) := by decide +kernel
theorem dL_cell_6 : decode cL_cell 6 = .ok (.aload_n 0, 1) := by decide +kernel
theorem dL_cell_7 : decode cL_cell 7 = .ok (.iload_n 1, 1) := by decide +kernel
theorem dL_cell_8 : decode cL_cell 8 = .ok (.iaload, 1) := by decide +kernel
theorem dL_cell_9 : decode cL_cell 9 = .ok (.goto 10, 3) := by decide +kernel
theorem dL_cell_12 : decode cL_cell 12 = .ok (.ldc 7, 2) := by decide +kernel
theorem dL_cell_14 : decode cL_cell 14 = .ok (.iload_n 1, 1) := by decide +kernel
theorem dL_cell_15 : decode cL_cell 15 = .ok (.bipush 53, 2) := by decide +kernel
theorem dL_cell_17 : decode cL_cell 17 = .ok (.iadd, 1) := by decide +kernel
theorem dL_cell_18 : decode cL_cell 18 = .ok (.imul, 1) := by decide +kernel
theorem dL_cell_19 : decode cL_cell 19 = .ok (.ldc 8, 2) := by decide +kernel
theorem dL_cell_21 : decode cL_cell 21 = .ok (.iand, 1) := by decide +kernel
theorem dL_cell_22 : decode cL_cell 22 = .ok (.ireturn, 1) := by decide +kernel
theorem dL_holds_0 : decode cL_holds 0 = .ok (.iconst 0, 1) := by decide +kernel
theorem dL_holds_1 : decode cL_holds 1 = .ok (.istore_n 1, 1) := by decide +kernel
theorem dL_holds_2 : decode cL_holds 2 = .ok (.iconst 0, 1) := by decide +kernel
theorem dL_holds_3 : decode cL_holds 3 = .ok (.istore_n 2, 1) := by decide +kernel
theorem dL_holds_4 : decode cL_holds 4 = .ok (.iconst 0, 1) := by decide +kernel
theorem dL_holds_5 : decode cL_holds 5 = .ok (.istore_n 3, 1) := by decide +kernel
theorem dL_holds_6 : decode cL_holds 6 = .ok (.aload_n 0, 1) := by decide +kernel
theorem dL_holds_7 : decode cL_holds 7 = .ok (.iconst 3, 1) := by decide +kernel
theorem dL_holds_8 : decode cL_holds 8 = .ok (.invokevirtual 9, 3) := by decide +kernel
theorem dL_holds_11 : decode cL_holds 11 = .ok (.ifCond .lt 43, 3) := by decide +kernel
theorem dL_holds_14 : decode cL_holds 14 = .ok (.aload_n 0, 1) := by decide +kernel
theorem dL_holds_15 : decode cL_holds 15 = .ok (.iconst 3, 1) := by decide +kernel
theorem dL_holds_16 : decode cL_holds 16 = .ok (.invokevirtual 9, 3) := by decide +kernel
theorem dL_holds_19 : decode cL_holds 19 = .ok (.iconst 3, 1) := by decide +kernel
theorem dL_holds_20 : decode cL_holds 20 = .ok (.if_icmp .ge 34, 3) := by decide +kernel
theorem dL_holds_23 : decode cL_holds 23 = .ok (.aload_n 0, 1) := by decide +kernel
theorem dL_holds_24 : decode cL_holds 24 = .ok (.bipush 10, 2) := by decide +kernel
theorem dL_holds_26 : decode cL_holds 26 = .ok (.invokevirtual 9, 3) := by decide +kernel
theorem dL_holds_29 : decode cL_holds 29 = .ok (.aload_n 0, 1) := by decide +kernel
theorem dL_holds_30 : decode cL_holds 30 = .ok (.iconst 4, 1) := by decide +kernel
theorem dL_holds_31 : decode cL_holds 31 = .ok (.invokevirtual 9, 3) := by decide +kernel
theorem dL_holds_34 : decode cL_holds 34 = .ok (.aload_n 0, 1) := by decide +kernel
theorem dL_holds_35 : decode cL_holds 35 = .ok (.iconst 5, 1) := by decide +kernel
theorem dL_holds_36 : decode cL_holds 36 = .ok (.invokevirtual 9, 3) := by decide +kernel
theorem dL_holds_39 : decode cL_holds 39 = .ok (.iadd, 1) := by decide +kernel
theorem dL_holds_40 : decode cL_holds 40 = .ok (.aload_n 0, 1) := by decide +kernel
theorem dL_holds_41 : decode cL_holds 41 = .ok (.bipush 6, 2) := by decide +kernel
theorem dL_holds_43 : decode cL_holds 43 = .ok (.invokevirtual 9, 3) := by decide +kernel
theorem dL_holds_46 : decode cL_holds 46 = .ok (.iadd, 1) := by decide +kernel
theorem dL_holds_47 : decode cL_holds 47 = .ok (.if_icmp .ne 7, 3) := by decide +kernel
theorem dL_holds_50 : decode cL_holds 50 = .ok (.iconst 1, 1) := by decide +kernel
theorem dL_holds_51 : decode cL_holds 51 = .ok (.goto 4, 3) := by decide +kernel
theorem dL_holds_54 : decode cL_holds 54 = .ok (.iconst 0, 1) := by decide +kernel
theorem dL_holds_55 : decode cL_holds 55 = .ok (.istore 4, 2) := by decide +kernel
theorem dL_holds_57 : decode cL_holds 57 = .ok (.iconst 0, 1) := by decide +kernel
theorem dL_holds_58 : decode cL_holds 58 = .ok (.istore 5, 2) := by decide +kernel
theorem dL_holds_60 : decode cL_holds 60 = .ok (.iload 5, 2) := by decide +kernel
theorem dL_holds_62 : decode cL_holds 62 = .ok (.aload_n 0, 1) := by decide +kernel
theorem dL_holds_63 : decode cL_holds 63 = .ok (.iconst 0, 1) := by decide +kernel
theorem dL_holds_64 : decode cL_holds 64 = .ok (.invokevirtual 9, 3) := by decide +kernel
theorem dL_holds_67 : decode cL_holds 67 = .ok (.if_icmp .ge 248, 3) := by decide +kernel
theorem dL_holds_70 : decode cL_holds 70 = .ok (.iload 4, 2) := by decide +kernel
theorem dL_holds_72 : decode cL_holds 72 = .ok (.ifCond .eq 243, 3) := by decide +kernel
theorem dL_holds_75 : decode cL_holds 75 = .ok (.aload_n 0, 1) := by decide +kernel
theorem dL_holds_76 : decode cL_holds 76 = .ok (.iload 5, 2) := by decide +kernel
theorem dL_holds_78 : decode cL_holds 78 = .ok (.iconst 1, 1) := by decide +kernel
theorem dL_holds_79 : decode cL_holds 79 = .ok (.invokevirtual 15, 3) := by decide +kernel
theorem dL_holds_82 : decode cL_holds 82 = .ok (.istore 6, 2) := by decide +kernel
theorem dL_holds_84 : decode cL_holds 84 = .ok (.iconst 0, 1) := by decide +kernel
theorem dL_holds_85 : decode cL_holds 85 = .ok (.istore 7, 2) := by decide +kernel
theorem dL_holds_87 : decode cL_holds 87 = .ok (.iconst 0, 1) := by decide +kernel
theorem dL_holds_88 : decode cL_holds 88 = .ok (.istore 8, 2) := by decide +kernel
theorem dL_holds_90 : decode cL_holds 90 = .ok (.iconst 0, 1) := by decide +kernel
theorem dL_holds_91 : decode cL_holds 91 = .ok (.istore 9, 2) := by decide +kernel
theorem dL_holds_93 : decode cL_holds 93 = .ok (.iconst 0, 1) := by decide +kernel
theorem dL_holds_94 : decode cL_holds 94 = .ok (.istore 10, 2) := by decide +kernel
theorem dL_holds_96 : decode cL_holds 96 = .ok (.iload 10, 2) := by decide +kernel
theorem dL_holds_98 : decode cL_holds 98 = .ok (.iload 6, 2) := by decide +kernel
theorem dL_holds_100 : decode cL_holds 100 = .ok (.if_icmp .ge 73, 3) := by decide +kernel
theorem dL_holds_103 : decode cL_holds 103 = .ok (.aload_n 0, 1) := by decide +kernel
theorem dL_holds_104 : decode cL_holds 104 = .ok (.iload 5, 2) := by decide +kernel
theorem dL_holds_106 : decode cL_holds 106 = .ok (.iload 10, 2) := by decide +kernel
theorem dL_holds_108 : decode cL_holds 108 = .ok (.invokevirtual 19, 3) := by decide +kernel
theorem dL_holds_111 : decode cL_holds 111 = .ok (.istore 11, 2) := by decide +kernel
theorem dL_holds_113 : decode cL_holds 113 = .ok (.iload 11, 2) := by decide +kernel
theorem dL_holds_115 : decode cL_holds 115 = .ok (.ifCond .le 8, 3) := by decide +kernel
theorem dL_holds_118 : decode cL_holds 118 = .ok (.iload 11, 2) := by decide +kernel
theorem dL_holds_120 : decode cL_holds 120 = .ok (.goto 8, 3) := by decide +kernel
theorem dL_holds_123 : decode cL_holds 123 = .ok (.iload 11, 2) := by decide +kernel
theorem dL_holds_125 : decode cL_holds 125 = .ok (.bipush 10, 2) := by decide +kernel
theorem dL_holds_127 : decode cL_holds 127 = .ok (.iadd, 1) := by decide +kernel
theorem dL_holds_128 : decode cL_holds 128 = .ok (.istore 12, 2) := by decide +kernel
theorem dL_holds_130 : decode cL_holds 130 = .ok (.iload 7, 2) := by decide +kernel
theorem dL_holds_132 : decode cL_holds 132 = .ok (.iconst 1, 1) := by decide +kernel
theorem dL_holds_133 : decode cL_holds 133 = .ok (.iload 12, 2) := by decide +kernel
theorem dL_holds_135 : decode cL_holds 135 = .ok (.ishl, 1) := by decide +kernel
theorem dL_holds_136 : decode cL_holds 136 = .ok (.ior, 1) := by decide +kernel
theorem dL_holds_137 : decode cL_holds 137 = .ok (.istore 7, 2) := by decide +kernel
theorem dL_holds_139 : decode cL_holds 139 = .ok (.iload 8, 2) := by decide +kernel
theorem dL_holds_141 : decode cL_holds 141 = .ok (.iload 11, 2) := by decide +kernel
theorem dL_holds_143 : decode cL_holds 143 = .ok (.ifCond .le 7, 3) := by decide +kernel
theorem dL_holds_146 : decode cL_holds 146 = .ok (.iconst 0, 1) := by decide +kernel
theorem dL_holds_147 : decode cL_holds 147 = .ok (.goto 7, 3) := by decide +kernel
theorem dL_holds_150 : decode cL_holds 150 = .ok (.iconst 1, 1) := by decide +kernel
theorem dL_holds_151 : decode cL_holds 151 = .ok (.iload 10, 2) := by decide +kernel
theorem dL_holds_153 : decode cL_holds 153 = .ok (.ishl, 1) := by decide +kernel
theorem dL_holds_154 : decode cL_holds 154 = .ok (.ior, 1) := by decide +kernel
theorem dL_holds_155 : decode cL_holds 155 = .ok (.istore 8, 2) := by decide +kernel
theorem dL_holds_157 : decode cL_holds 157 = .ok (.bipush 10, 2) := by decide +kernel
theorem dL_holds_159 : decode cL_holds 159 = .ok (.iload 9, 2) := by decide +kernel
theorem dL_holds_161 : decode cL_holds 161 = .ok (.imul, 1) := by decide +kernel
theorem dL_holds_162 : decode cL_holds 162 = .ok (.iload 12, 2) := by decide +kernel
theorem dL_holds_164 : decode cL_holds 164 = .ok (.iadd, 1) := by decide +kernel
theorem dL_holds_165 : decode cL_holds 165 = .ok (.istore 9, 2) := by decide +kernel
theorem dL_holds_167 : decode cL_holds 167 = .ok (.iinc 10 1, 3) := by decide +kernel
theorem dL_holds_170 : decode cL_holds 170 = .ok (.goto (-74), 3) := by decide +kernel
theorem dL_holds_173 : decode cL_holds 173 = .ok (.iload_n 1, 1) := by decide +kernel
theorem dL_holds_174 : decode cL_holds 174 = .ok (.aload_n 0, 1) := by decide +kernel
theorem dL_holds_175 : decode cL_holds 175 = .ok (.iload 5, 2) := by decide +kernel
theorem dL_holds_177 : decode cL_holds 177 = .ok (.bipush 6, 2) := by decide +kernel
theorem dL_holds_179 : decode cL_holds 179 = .ok (.invokevirtual 15, 3) := by decide +kernel
theorem dL_holds_182 : decode cL_holds 182 = .ok (.iadd, 1) := by decide +kernel
theorem dL_holds_183 : decode cL_holds 183 = .ok (.istore_n 1, 1) := by decide +kernel
theorem dL_holds_184 : decode cL_holds 184 = .ok (.iload_n 2, 1) := by decide +kernel
theorem dL_holds_185 : decode cL_holds 185 = .ok (.aload_n 0, 1) := by decide +kernel
theorem dL_holds_186 : decode cL_holds 186 = .ok (.iload 5, 2) := by decide +kernel
theorem dL_holds_188 : decode cL_holds 188 = .ok (.iconst 5, 1) := by decide +kernel
theorem dL_holds_189 : decode cL_holds 189 = .ok (.invokevirtual 15, 3) := by decide +kernel
theorem dL_holds_192 : decode cL_holds 192 = .ok (.iadd, 1) := by decide +kernel
theorem dL_holds_193 : decode cL_holds 193 = .ok (.istore_n 2, 1) := by decide +kernel
theorem dL_holds_194 : decode cL_holds 194 = .ok (.iload_n 3, 1) := by decide +kernel
theorem dL_holds_195 : decode cL_holds 195 = .ok (.aload_n 0, 1) := by decide +kernel
theorem dL_holds_196 : decode cL_holds 196 = .ok (.iload 5, 2) := by decide +kernel
theorem dL_holds_198 : decode cL_holds 198 = .ok (.bipush 9, 2) := by decide +kernel
theorem dL_holds_200 : decode cL_holds 200 = .ok (.invokevirtual 15, 3) := by decide +kernel
theorem dL_holds_203 : decode cL_holds 203 = .ok (.iadd, 1) := by decide +kernel
theorem dL_holds_204 : decode cL_holds 204 = .ok (.istore_n 3, 1) := by decide +kernel
theorem dL_holds_205 : decode cL_holds 205 = .ok (.iload 7, 2) := by decide +kernel
theorem dL_holds_207 : decode cL_holds 207 = .ok (.iconst 2, 1) := by decide +kernel
theorem dL_holds_208 : decode cL_holds 208 = .ok (.iload 6, 2) := by decide +kernel
theorem dL_holds_210 : decode cL_holds 210 = .ok (.ishl, 1) := by decide +kernel
theorem dL_holds_211 : decode cL_holds 211 = .ok (.iconst 2, 1) := by decide +kernel
theorem dL_holds_212 : decode cL_holds 212 = .ok (.isub, 1) := by decide +kernel
theorem dL_holds_213 : decode cL_holds 213 = .ok (.if_icmp .ne 93, 3) := by decide +kernel
theorem dL_holds_216 : decode cL_holds 216 = .ok (.iload 8, 2) := by decide +kernel
theorem dL_holds_218 : decode cL_holds 218 = .ok (.aload_n 0, 1) := by decide +kernel
theorem dL_holds_219 : decode cL_holds 219 = .ok (.iload 5, 2) := by decide +kernel
theorem dL_holds_221 : decode cL_holds 221 = .ok (.iconst 4, 1) := by decide +kernel
theorem dL_holds_222 : decode cL_holds 222 = .ok (.invokevirtual 15, 3) := by decide +kernel
theorem dL_holds_225 : decode cL_holds 225 = .ok (.if_icmp .ne 81, 3) := by decide +kernel
theorem dL_holds_228 : decode cL_holds 228 = .ok (.iload 9, 2) := by decide +kernel
theorem dL_holds_230 : decode cL_holds 230 = .ok (.aload_n 0, 1) := by decide +kernel
theorem dL_holds_231 : decode cL_holds 231 = .ok (.iload 5, 2) := by decide +kernel
theorem dL_holds_233 : decode cL_holds 233 = .ok (.iconst 3, 1) := by decide +kernel
theorem dL_holds_234 : decode cL_holds 234 = .ok (.invokevirtual 15, 3) := by decide +kernel
theorem dL_holds_237 : decode cL_holds 237 = .ok (.if_icmp .ne 69, 3) := by decide +kernel
theorem dL_holds_240 : decode cL_holds 240 = .ok (.aload_n 0, 1) := by decide +kernel
theorem dL_holds_241 : decode cL_holds 241 = .ok (.iload 5, 2) := by decide +kernel
theorem dL_holds_243 : decode cL_holds 243 = .ok (.iconst 5, 1) := by decide +kernel
theorem dL_holds_244 : decode cL_holds 244 = .ok (.invokevirtual 15, 3) := by decide +kernel
theorem dL_holds_247 : decode cL_holds 247 = .ok (.iload 6, 2) := by decide +kernel
theorem dL_holds_249 : decode cL_holds 249 = .ok (.if_icmp .gt 57, 3) := by decide +kernel
theorem dL_holds_252 : decode cL_holds 252 = .ok (.aload_n 0, 1) := by decide +kernel
theorem dL_holds_253 : decode cL_holds 253 = .ok (.iload 5, 2) := by decide +kernel
theorem dL_holds_255 : decode cL_holds 255 = .ok (.bipush 6, 2) := by decide +kernel
theorem dL_holds_257 : decode cL_holds 257 = .ok (.invokevirtual 15, 3) := by decide +kernel
theorem dL_holds_260 : decode cL_holds 260 = .ok (.ifCond .eq 24, 3) := by decide +kernel
theorem dL_holds_263 : decode cL_holds 263 = .ok (.aload_n 0, 1) := by decide +kernel
theorem dL_holds_264 : decode cL_holds 264 = .ok (.iload 5, 2) := by decide +kernel
theorem dL_holds_266 : decode cL_holds 266 = .ok (.iconst 5, 1) := by decide +kernel
theorem dL_holds_267 : decode cL_holds 267 = .ok (.invokevirtual 15, 3) := by decide +kernel
theorem dL_holds_270 : decode cL_holds 270 = .ok (.ifCond .ne 36, 3) := by decide +kernel
theorem dL_holds_273 : decode cL_holds 273 = .ok (.aload_n 0, 1) := by decide +kernel
theorem dL_holds_274 : decode cL_holds 274 = .ok (.iload 5, 2) := by decide +kernel
theorem dL_holds_276 : decode cL_holds 276 = .ok (.bipush 7, 2) := by decide +kernel
theorem dL_holds_278 : decode cL_holds 278 = .ok (.invokevirtual 15, 3) := by decide +kernel
theorem dL_holds_281 : decode cL_holds 281 = .ok (.ifCond .ne 25, 3) := by decide +kernel
theorem dL_holds_284 : decode cL_holds 284 = .ok (.aload_n 0, 1) := by decide +kernel
theorem dL_holds_285 : decode cL_holds 285 = .ok (.iload 5, 2) := by decide +kernel
theorem dL_holds_287 : decode cL_holds 287 = .ok (.iconst 0, 1) := by decide +kernel
theorem dL_holds_288 : decode cL_holds 288 = .ok (.invokevirtual 15, 3) := by decide +kernel
theorem dL_holds_291 : decode cL_holds 291 = .ok (.iconst 2, 1) := by decide +kernel
theorem dL_holds_292 : decode cL_holds 292 = .ok (.irem, 1) := by decide +kernel
theorem dL_holds_293 : decode cL_holds 293 = .ok (.iconst 1, 1) := by decide +kernel
theorem dL_holds_294 : decode cL_holds 294 = .ok (.if_icmp .eq 8, 3) := by decide +kernel
theorem dL_holds_297 : decode cL_holds 297 = .ok (.iload 8, 2) := by decide +kernel
theorem dL_holds_299 : decode cL_holds 299 = .ok (.ifCond .ne 7, 3) := by decide +kernel
theorem dL_holds_302 : decode cL_holds 302 = .ok (.iconst 1, 1) := by decide +kernel
theorem dL_holds_303 : decode cL_holds 303 = .ok (.goto 4, 3) := by decide +kernel
theorem dL_holds_306 : decode cL_holds 306 = .ok (.iconst 0, 1) := by decide +kernel
theorem dL_holds_307 : decode cL_holds 307 = .ok (.istore 4, 2) := by decide +kernel
theorem dL_holds_309 : decode cL_holds 309 = .ok (.iinc 5 1, 3) := by decide +kernel
theorem dL_holds_312 : decode cL_holds 312 = .ok (.goto (-252), 3) := by decide +kernel
theorem dL_holds_315 : decode cL_holds 315 = .ok (.iload 4, 2) := by decide +kernel
theorem dL_holds_317 : decode cL_holds 317 = .ok (.ifCond .eq 35, 3) := by decide +kernel
theorem dL_holds_320 : decode cL_holds 320 = .ok (.aload_n 0, 1) := by decide +kernel
theorem dL_holds_321 : decode cL_holds 321 = .ok (.iconst 1, 1) := by decide +kernel
theorem dL_holds_322 : decode cL_holds 322 = .ok (.invokevirtual 9, 3) := by decide +kernel
theorem dL_holds_325 : decode cL_holds 325 = .ok (.iload_n 1, 1) := by decide +kernel
theorem dL_holds_326 : decode cL_holds 326 = .ok (.if_icmp .ne 26, 3) := by decide +kernel
theorem dL_holds_329 : decode cL_holds 329 = .ok (.aload_n 0, 1) := by decide +kernel
theorem dL_holds_330 : decode cL_holds 330 = .ok (.iconst 2, 1) := by decide +kernel
theorem dL_holds_331 : decode cL_holds 331 = .ok (.invokevirtual 9, 3) := by decide +kernel
theorem dL_holds_334 : decode cL_holds 334 = .ok (.iload_n 2, 1) := by decide +kernel
theorem dL_holds_335 : decode cL_holds 335 = .ok (.if_icmp .ne 17, 3) := by decide +kernel
theorem dL_holds_338 : decode cL_holds 338 = .ok (.aload_n 0, 1) := by decide +kernel
theorem dL_holds_339 : decode cL_holds 339 = .ok (.bipush 10, 2) := by decide +kernel
theorem dL_holds_341 : decode cL_holds 341 = .ok (.invokevirtual 9, 3) := by decide +kernel
theorem dL_holds_344 : decode cL_holds 344 = .ok (.iload_n 3, 1) := by decide +kernel
theorem dL_holds_345 : decode cL_holds 345 = .ok (.if_icmp .ne 7, 3) := by decide +kernel
theorem dL_holds_348 : decode cL_holds 348 = .ok (.iconst 1, 1) := by decide +kernel
theorem dL_holds_349 : decode cL_holds 349 = .ok (.goto 4, 3) := by decide +kernel
theorem dL_holds_352 : decode cL_holds 352 = .ok (.iconst 0, 1) := by decide +kernel
theorem dL_holds_353 : decode cL_holds 353 = .ok (.ireturn, 1) := by decide +kernel
theorem dL_turns_0 : decode cL_turns 0 = .ok (.aload_n 0, 1) := by decide +kernel
theorem dL_turns_1 : decode cL_turns 1 = .ok (.iload_n 1, 1) := by decide +kernel
theorem dL_turns_2 : decode cL_turns 2 = .ok (.iconst 5, 1) := by decide +kernel
theorem dL_turns_3 : decode cL_turns 3 = .ok (.invokevirtual 15, 3) := by decide +kernel
theorem dL_turns_6 : decode cL_turns 6 = .ok (.istore_n 3, 1) := by decide +kernel
theorem dL_turns_7 : decode cL_turns 7 = .ok (.aload_n 0, 1) := by decide +kernel
theorem dL_turns_8 : decode cL_turns 8 = .ok (.iload_n 1, 1) := by decide +kernel
theorem dL_turns_9 : decode cL_turns 9 = .ok (.iconst 3, 1) := by decide +kernel
theorem dL_turns_10 : decode cL_turns 10 = .ok (.invokevirtual 15, 3) := by decide +kernel
theorem dL_turns_13 : decode cL_turns 13 = .ok (.istore 4, 2) := by decide +kernel
theorem dL_turns_15 : decode cL_turns 15 = .ok (.aload_n 0, 1) := by decide +kernel
theorem dL_turns_16 : decode cL_turns 16 = .ok (.iload_n 1, 1) := by decide +kernel
theorem dL_turns_17 : decode cL_turns 17 = .ok (.iconst 4, 1) := by decide +kernel
theorem dL_turns_18 : decode cL_turns 18 = .ok (.invokevirtual 15, 3) := by decide +kernel
theorem dL_turns_21 : decode cL_turns 21 = .ok (.istore 5, 2) := by decide +kernel
theorem dL_turns_23 : decode cL_turns 23 = .ok (.aload_n 0, 1) := by decide +kernel
theorem dL_turns_24 : decode cL_turns 24 = .ok (.iconst 3, 1) := by decide +kernel
theorem dL_turns_25 : decode cL_turns 25 = .ok (.invokevirtual 9, 3) := by decide +kernel
theorem dL_turns_28 : decode cL_turns 28 = .ok (.istore 6, 2) := by decide +kernel
theorem dL_turns_30 : decode cL_turns 30 = .ok (.aload_n 0, 1) := by decide +kernel
theorem dL_turns_31 : decode cL_turns 31 = .ok (.iconst 4, 1) := by decide +kernel
theorem dL_turns_32 : decode cL_turns 32 = .ok (.iload 6, 2) := by decide +kernel
theorem dL_turns_34 : decode cL_turns 34 = .ok (.iadd, 1) := by decide +kernel
theorem dL_turns_35 : decode cL_turns 35 = .ok (.invokevirtual 9, 3) := by decide +kernel
theorem dL_turns_38 : decode cL_turns 38 = .ok (.istore 7, 2) := by decide +kernel
theorem dL_turns_40 : decode cL_turns 40 = .ok (.aload_n 0, 1) := by decide +kernel
theorem dL_turns_41 : decode cL_turns 41 = .ok (.bipush 7, 2) := by decide +kernel
theorem dL_turns_43 : decode cL_turns 43 = .ok (.iload 6, 2) := by decide +kernel
theorem dL_turns_45 : decode cL_turns 45 = .ok (.iadd, 1) := by decide +kernel
theorem dL_turns_46 : decode cL_turns 46 = .ok (.invokevirtual 9, 3) := by decide +kernel
theorem dL_turns_49 : decode cL_turns 49 = .ok (.istore 8, 2) := by decide +kernel
theorem dL_turns_51 : decode cL_turns 51 = .ok (.aload_n 0, 1) := by decide +kernel
theorem dL_turns_52 : decode cL_turns 52 = .ok (.iload_n 1, 1) := by decide +kernel
theorem dL_turns_53 : decode cL_turns 53 = .ok (.bipush 8, 2) := by decide +kernel
theorem dL_turns_55 : decode cL_turns 55 = .ok (.invokevirtual 15, 3) := by decide +kernel
theorem dL_turns_58 : decode cL_turns 58 = .ok (.iload_n 2, 1) := by decide +kernel
theorem dL_turns_59 : decode cL_turns 59 = .ok (.ishr, 1) := by decide +kernel
theorem dL_turns_60 : decode cL_turns 60 = .ok (.iconst 1, 1) := by decide +kernel
theorem dL_turns_61 : decode cL_turns 61 = .ok (.iand, 1) := by decide +kernel
theorem dL_turns_62 : decode cL_turns 62 = .ok (.istore 9, 2) := by decide +kernel
theorem dL_turns_64 : decode cL_turns 64 = .ok (.aload_n 0, 1) := by decide +kernel
theorem dL_turns_65 : decode cL_turns 65 = .ok (.iload_n 1, 1) := by decide +kernel
theorem dL_turns_66 : decode cL_turns 66 = .ok (.iload_n 2, 1) := by decide +kernel
theorem dL_turns_67 : decode cL_turns 67 = .ok (.invokevirtual 22, 3) := by decide +kernel
theorem dL_turns_70 : decode cL_turns 70 = .ok (.istore 10, 2) := by decide +kernel
theorem dL_turns_72 : decode cL_turns 72 = .ok (.aload_n 0, 1) := by decide +kernel
theorem dL_turns_73 : decode cL_turns 73 = .ok (.iload_n 1, 1) := by decide +kernel
theorem dL_turns_74 : decode cL_turns 74 = .ok (.iload_n 2, 1) := by decide +kernel
theorem dL_turns_75 : decode cL_turns 75 = .ok (.invokevirtual 25, 3) := by decide +kernel
theorem dL_turns_78 : decode cL_turns 78 = .ok (.istore 11, 2) := by decide +kernel
theorem dL_turns_80 : decode cL_turns 80 = .ok (.iload 9, 2) := by decide +kernel
theorem dL_turns_82 : decode cL_turns 82 = .ok (.ifCond .ne 47, 3) := by decide +kernel
theorem dL_turns_85 : decode cL_turns 85 = .ok (.iload 11, 2) := by decide +kernel
theorem dL_turns_87 : decode cL_turns 87 = .ok (.ldc 28, 2) := by decide +kernel
theorem dL_turns_89 : decode cL_turns 89 = .ok (.if_icmp .ne 38, 3) := by decide +kernel
theorem dL_turns_92 : decode cL_turns 92 = .ok (.aload_n 0, 1) := by decide +kernel
theorem dL_turns_93 : decode cL_turns 93 = .ok (.iload_n 1, 1) := by decide +kernel
theorem dL_turns_94 : decode cL_turns 94 = .ok (.iconst 3, 1) := by decide +kernel
theorem dL_turns_95 : decode cL_turns 95 = .ok (.invokevirtual 15, 3) := by decide +kernel
theorem dL_turns_98 : decode cL_turns 98 = .ok (.iload 4, 2) := by decide +kernel
theorem dL_turns_100 : decode cL_turns 100 = .ok (.if_icmp .ne 27, 3) := by decide +kernel
theorem dL_turns_103 : decode cL_turns 103 = .ok (.aload_n 0, 1) := by decide +kernel
theorem dL_turns_104 : decode cL_turns 104 = .ok (.iconst 3, 1) := by decide +kernel
theorem dL_turns_105 : decode cL_turns 105 = .ok (.invokevirtual 9, 3) := by decide +kernel
theorem dL_turns_108 : decode cL_turns 108 = .ok (.iload 6, 2) := by decide +kernel
theorem dL_turns_110 : decode cL_turns 110 = .ok (.if_icmp .ne 17, 3) := by decide +kernel
theorem dL_turns_113 : decode cL_turns 113 = .ok (.aload_n 0, 1) := by decide +kernel
theorem dL_turns_114 : decode cL_turns 114 = .ok (.iload_n 1, 1) := by decide +kernel
theorem dL_turns_115 : decode cL_turns 115 = .ok (.iconst 0, 1) := by decide +kernel
theorem dL_turns_116 : decode cL_turns 116 = .ok (.invokevirtual 15, 3) := by decide +kernel
theorem dL_turns_119 : decode cL_turns 119 = .ok (.iconst 1, 1) := by decide +kernel
theorem dL_turns_120 : decode cL_turns 120 = .ok (.if_icmp .le 7, 3) := by decide +kernel
theorem dL_turns_123 : decode cL_turns 123 = .ok (.iconst 1, 1) := by decide +kernel
theorem dL_turns_124 : decode cL_turns 124 = .ok (.goto 4, 3) := by decide +kernel
theorem dL_turns_127 : decode cL_turns 127 = .ok (.iconst 0, 1) := by decide +kernel
theorem dL_turns_128 : decode cL_turns 128 = .ok (.ireturn, 1) := by decide +kernel
theorem dL_turns_129 : decode cL_turns 129 = .ok (.iload 11, 2) := by decide +kernel
theorem dL_turns_131 : decode cL_turns 131 = .ok (.iload 10, 2) := by decide +kernel
theorem dL_turns_133 : decode cL_turns 133 = .ok (.if_icmp .ne 79, 3) := by decide +kernel
theorem dL_turns_136 : decode cL_turns 136 = .ok (.iload 11, 2) := by decide +kernel
theorem dL_turns_138 : decode cL_turns 138 = .ok (.iload_n 3, 1) := by decide +kernel
theorem dL_turns_139 : decode cL_turns 139 = .ok (.iconst 1, 1) := by decide +kernel
theorem dL_turns_140 : decode cL_turns 140 = .ok (.isub, 1) := by decide +kernel
theorem dL_turns_141 : decode cL_turns 141 = .ok (.if_icmp .lt 71, 3) := by decide +kernel
theorem dL_turns_144 : decode cL_turns 144 = .ok (.iload 11, 2) := by decide +kernel
theorem dL_turns_146 : decode cL_turns 146 = .ok (.iload_n 3, 1) := by decide +kernel
theorem dL_turns_147 : decode cL_turns 147 = .ok (.iconst 1, 1) := by decide +kernel
theorem dL_turns_148 : decode cL_turns 148 = .ok (.iadd, 1) := by decide +kernel
theorem dL_turns_149 : decode cL_turns 149 = .ok (.if_icmp .gt 63, 3) := by decide +kernel
theorem dL_turns_152 : decode cL_turns 152 = .ok (.aload_n 0, 1) := by decide +kernel
theorem dL_turns_153 : decode cL_turns 153 = .ok (.iload_n 1, 1) := by decide +kernel
theorem dL_turns_154 : decode cL_turns 154 = .ok (.iconst 5, 1) := by decide +kernel
theorem dL_turns_155 : decode cL_turns 155 = .ok (.invokevirtual 15, 3) := by decide +kernel
theorem dL_turns_158 : decode cL_turns 158 = .ok (.iload 11, 2) := by decide +kernel
theorem dL_turns_160 : decode cL_turns 160 = .ok (.if_icmp .ne 52, 3) := by decide +kernel
theorem dL_turns_163 : decode cL_turns 163 = .ok (.aload_n 0, 1) := by decide +kernel
theorem dL_turns_164 : decode cL_turns 164 = .ok (.iconst 3, 1) := by decide +kernel
theorem dL_turns_165 : decode cL_turns 165 = .ok (.invokevirtual 9, 3) := by decide +kernel
theorem dL_turns_168 : decode cL_turns 168 = .ok (.iload 6, 2) := by decide +kernel
theorem dL_turns_170 : decode cL_turns 170 = .ok (.iconst 1, 1) := by decide +kernel
theorem dL_turns_171 : decode cL_turns 171 = .ok (.iadd, 1) := by decide +kernel
theorem dL_turns_172 : decode cL_turns 172 = .ok (.iconst 3, 1) := by decide +kernel
theorem dL_turns_173 : decode cL_turns 173 = .ok (.irem, 1) := by decide +kernel
theorem dL_turns_174 : decode cL_turns 174 = .ok (.if_icmp .ne 38, 3) := by decide +kernel
theorem dL_turns_177 : decode cL_turns 177 = .ok (.aload_n 0, 1) := by decide +kernel
theorem dL_turns_178 : decode cL_turns 178 = .ok (.iconst 4, 1) := by decide +kernel
theorem dL_turns_179 : decode cL_turns 179 = .ok (.iload 6, 2) := by decide +kernel
theorem dL_turns_181 : decode cL_turns 181 = .ok (.iadd, 1) := by decide +kernel
theorem dL_turns_182 : decode cL_turns 182 = .ok (.invokevirtual 9, 3) := by decide +kernel
theorem dL_turns_185 : decode cL_turns 185 = .ok (.iload 7, 2) := by decide +kernel
theorem dL_turns_187 : decode cL_turns 187 = .ok (.iconst 1, 1) := by decide +kernel
theorem dL_turns_188 : decode cL_turns 188 = .ok (.iadd, 1) := by decide +kernel
theorem dL_turns_189 : decode cL_turns 189 = .ok (.if_icmp .ne 23, 3) := by decide +kernel
theorem dL_turns_192 : decode cL_turns 192 = .ok (.aload_n 0, 1) := by decide +kernel
theorem dL_turns_193 : decode cL_turns 193 = .ok (.bipush 7, 2) := by decide +kernel
theorem dL_turns_195 : decode cL_turns 195 = .ok (.iload 6, 2) := by decide +kernel
theorem dL_turns_197 : decode cL_turns 197 = .ok (.iadd, 1) := by decide +kernel
theorem dL_turns_198 : decode cL_turns 198 = .ok (.invokevirtual 9, 3) := by decide +kernel
theorem dL_turns_201 : decode cL_turns 201 = .ok (.iload 8, 2) := by decide +kernel
theorem dL_turns_203 : decode cL_turns 203 = .ok (.iload_n 2, 1) := by decide +kernel
theorem dL_turns_204 : decode cL_turns 204 = .ok (.iadd, 1) := by decide +kernel
theorem dL_turns_205 : decode cL_turns 205 = .ok (.if_icmp .ne 7, 3) := by decide +kernel
theorem dL_turns_208 : decode cL_turns 208 = .ok (.iconst 1, 1) := by decide +kernel
theorem dL_turns_209 : decode cL_turns 209 = .ok (.goto 4, 3) := by decide +kernel
theorem dL_turns_212 : decode cL_turns 212 = .ok (.iconst 0, 1) := by decide +kernel
theorem dL_turns_213 : decode cL_turns 213 = .ok (.istore 12, 2) := by decide +kernel
theorem dL_turns_215 : decode cL_turns 215 = .ok (.iload 12, 2) := by decide +kernel
theorem dL_turns_217 : decode cL_turns 217 = .ok (.ifCond .eq 28, 3) := by decide +kernel
theorem dL_turns_220 : decode cL_turns 220 = .ok (.aload_n 0, 1) := by decide +kernel
theorem dL_turns_221 : decode cL_turns 221 = .ok (.iload_n 1, 1) := by decide +kernel
theorem dL_turns_222 : decode cL_turns 222 = .ok (.iload_n 2, 1) := by decide +kernel
theorem dL_turns_223 : decode cL_turns 223 = .ok (.invokevirtual 22, 3) := by decide +kernel
theorem dL_turns_226 : decode cL_turns 226 = .ok (.iload_n 3, 1) := by decide +kernel
theorem dL_turns_227 : decode cL_turns 227 = .ok (.if_icmp .ne 18, 3) := by decide +kernel
theorem dL_turns_230 : decode cL_turns 230 = .ok (.aload_n 0, 1) := by decide +kernel
theorem dL_turns_231 : decode cL_turns 231 = .ok (.iload_n 1, 1) := by decide +kernel
theorem dL_turns_232 : decode cL_turns 232 = .ok (.iload_n 2, 1) := by decide +kernel
theorem dL_turns_233 : decode cL_turns 233 = .ok (.iconst 1, 1) := by decide +kernel
theorem dL_turns_234 : decode cL_turns 234 = .ok (.isub, 1) := by decide +kernel
theorem dL_turns_235 : decode cL_turns 235 = .ok (.invokevirtual 19, 3) := by decide +kernel
theorem dL_turns_238 : decode cL_turns 238 = .ok (.ifCond .eq 7, 3) := by decide +kernel
theorem dL_turns_241 : decode cL_turns 241 = .ok (.iconst 1, 1) := by decide +kernel
theorem dL_turns_242 : decode cL_turns 242 = .ok (.goto 4, 3) := by decide +kernel
theorem dL_turns_245 : decode cL_turns 245 = .ok (.iconst 0, 1) := by decide +kernel
theorem dL_turns_246 : decode cL_turns 246 = .ok (.istore 12, 2) := by decide +kernel
theorem dL_turns_248 : decode cL_turns 248 = .ok (.aload_n 0, 1) := by decide +kernel
theorem dL_turns_249 : decode cL_turns 249 = .ok (.iload_n 1, 1) := by decide +kernel
theorem dL_turns_250 : decode cL_turns 250 = .ok (.iconst 0, 1) := by decide +kernel
theorem dL_turns_251 : decode cL_turns 251 = .ok (.invokevirtual 15, 3) := by decide +kernel
theorem dL_turns_254 : decode cL_turns 254 = .ok (.iconst 2, 1) := by decide +kernel
theorem dL_turns_255 : decode cL_turns 255 = .ok (.if_icmp .eq 69, 3) := by decide +kernel
theorem dL_turns_258 : decode cL_turns 258 = .ok (.iload 12, 2) := by decide +kernel
theorem dL_turns_260 : decode cL_turns 260 = .ok (.ifCond .eq 61, 3) := by decide +kernel
theorem dL_turns_263 : decode cL_turns 263 = .ok (.aload_n 0, 1) := by decide +kernel
theorem dL_turns_264 : decode cL_turns 264 = .ok (.iload_n 1, 1) := by decide +kernel
theorem dL_turns_265 : decode cL_turns 265 = .ok (.bipush 8, 2) := by decide +kernel
theorem dL_turns_267 : decode cL_turns 267 = .ok (.invokevirtual 15, 3) := by decide +kernel
theorem dL_turns_270 : decode cL_turns 270 = .ok (.iload_n 2, 1) := by decide +kernel
theorem dL_turns_271 : decode cL_turns 271 = .ok (.ishr, 1) := by decide +kernel
theorem dL_turns_272 : decode cL_turns 272 = .ok (.iconst 1, 1) := by decide +kernel
theorem dL_turns_273 : decode cL_turns 273 = .ok (.iand, 1) := by decide +kernel
theorem dL_turns_274 : decode cL_turns 274 = .ok (.iconst 1, 1) := by decide +kernel
theorem dL_turns_275 : decode cL_turns 275 = .ok (.if_icmp .ne 46, 3) := by decide +kernel
theorem dL_turns_278 : decode cL_turns 278 = .ok (.aload_n 0, 1) := by decide +kernel
theorem dL_turns_279 : decode cL_turns 279 = .ok (.iload_n 1, 1) := by decide +kernel
theorem dL_turns_280 : decode cL_turns 280 = .ok (.iload_n 2, 1) := by decide +kernel
theorem dL_turns_281 : decode cL_turns 281 = .ok (.invokevirtual 25, 3) := by decide +kernel
theorem dL_turns_284 : decode cL_turns 284 = .ok (.iload_n 3, 1) := by decide +kernel
theorem dL_turns_285 : decode cL_turns 285 = .ok (.if_icmp .ne 36, 3) := by decide +kernel
theorem dL_turns_288 : decode cL_turns 288 = .ok (.aload_n 0, 1) := by decide +kernel
theorem dL_turns_289 : decode cL_turns 289 = .ok (.iload_n 1, 1) := by decide +kernel
theorem dL_turns_290 : decode cL_turns 290 = .ok (.iconst 3, 1) := by decide +kernel
theorem dL_turns_291 : decode cL_turns 291 = .ok (.invokevirtual 15, 3) := by decide +kernel
theorem dL_turns_294 : decode cL_turns 294 = .ok (.iload 4, 2) := by decide +kernel
theorem dL_turns_296 : decode cL_turns 296 = .ok (.if_icmp .ne 25, 3) := by decide +kernel
theorem dL_turns_299 : decode cL_turns 299 = .ok (.aload_n 0, 1) := by decide +kernel
theorem dL_turns_300 : decode cL_turns 300 = .ok (.iload_n 1, 1) := by decide +kernel
theorem dL_turns_301 : decode cL_turns 301 = .ok (.iconst 4, 1) := by decide +kernel
theorem dL_turns_302 : decode cL_turns 302 = .ok (.invokevirtual 15, 3) := by decide +kernel
theorem dL_turns_305 : decode cL_turns 305 = .ok (.iload 5, 2) := by decide +kernel
theorem dL_turns_307 : decode cL_turns 307 = .ok (.if_icmp .ne 14, 3) := by decide +kernel
theorem dL_turns_310 : decode cL_turns 310 = .ok (.aload_n 0, 1) := by decide +kernel
theorem dL_turns_311 : decode cL_turns 311 = .ok (.invokevirtual 29, 3) := by decide +kernel
theorem dL_turns_314 : decode cL_turns 314 = .ok (.ifCond .lt 7, 3) := by decide +kernel
theorem dL_turns_317 : decode cL_turns 317 = .ok (.iconst 1, 1) := by decide +kernel
theorem dL_turns_318 : decode cL_turns 318 = .ok (.goto 4, 3) := by decide +kernel
theorem dL_turns_321 : decode cL_turns 321 = .ok (.iconst 0, 1) := by decide +kernel
theorem dL_turns_322 : decode cL_turns 322 = .ok (.istore 12, 2) := by decide +kernel
theorem dL_turns_324 : decode cL_turns 324 = .ok (.iload 12, 2) := by decide +kernel
theorem dL_turns_326 : decode cL_turns 326 = .ok (.ireturn, 1) := by decide +kernel
theorem dL_sorts_0 : decode cL_sorts 0 = .ok (.aload_n 0, 1) := by decide +kernel
theorem dL_sorts_1 : decode cL_sorts 1 = .ok (.iload_n 1, 1) := by decide +kernel
theorem dL_sorts_2 : decode cL_sorts 2 = .ok (.iconst 0, 1) := by decide +kernel
theorem dL_sorts_3 : decode cL_sorts 3 = .ok (.invokevirtual 33, 3) := by decide +kernel
theorem dL_sorts_6 : decode cL_sorts 6 = .ok (.istore_n 2, 1) := by decide +kernel
theorem dL_sorts_7 : decode cL_sorts 7 = .ok (.aload_n 0, 1) := by decide +kernel
theorem dL_sorts_8 : decode cL_sorts 8 = .ok (.iload_n 1, 1) := by decide +kernel
theorem dL_sorts_9 : decode cL_sorts 9 = .ok (.iconst 5, 1) := by decide +kernel
theorem dL_sorts_10 : decode cL_sorts 10 = .ok (.invokevirtual 15, 3) := by decide +kernel
theorem dL_sorts_13 : decode cL_sorts 13 = .ok (.istore_n 3, 1) := by decide +kernel
theorem dL_sorts_14 : decode cL_sorts 14 = .ok (.iload_n 2, 1) := by decide +kernel
theorem dL_sorts_15 : decode cL_sorts 15 = .ok (.ifCond .ge 29, 3) := by decide +kernel
theorem dL_sorts_18 : decode cL_sorts 18 = .ok (.iload_n 2, 1) := by decide +kernel
theorem dL_sorts_19 : decode cL_sorts 19 = .ok (.ldc 36, 2) := by decide +kernel
theorem dL_sorts_21 : decode cL_sorts 21 = .ok (.if_icmp .ne 21, 3) := by decide +kernel
theorem dL_sorts_24 : decode cL_sorts 24 = .ok (.aload_n 0, 1) := by decide +kernel
theorem dL_sorts_25 : decode cL_sorts 25 = .ok (.iload_n 1, 1) := by decide +kernel
theorem dL_sorts_26 : decode cL_sorts 26 = .ok (.iconst 0, 1) := by decide +kernel
theorem dL_sorts_27 : decode cL_sorts 27 = .ok (.invokevirtual 15, 3) := by decide +kernel
theorem dL_sorts_30 : decode cL_sorts 30 = .ok (.iconst 1, 1) := by decide +kernel
theorem dL_sorts_31 : decode cL_sorts 31 = .ok (.if_icmp .gt 7, 3) := by decide +kernel
theorem dL_sorts_34 : decode cL_sorts 34 = .ok (.iload_n 3, 1) := by decide +kernel
theorem dL_sorts_35 : decode cL_sorts 35 = .ok (.ifCond .le 7, 3) := by decide +kernel
theorem dL_sorts_38 : decode cL_sorts 38 = .ok (.iconst 1, 1) := by decide +kernel
theorem dL_sorts_39 : decode cL_sorts 39 = .ok (.goto 4, 3) := by decide +kernel
theorem dL_sorts_42 : decode cL_sorts 42 = .ok (.iconst 0, 1) := by decide +kernel
theorem dL_sorts_43 : decode cL_sorts 43 = .ok (.ireturn, 1) := by decide +kernel
theorem dL_sorts_44 : decode cL_sorts 44 = .ok (.aload_n 0, 1) := by decide +kernel
theorem dL_sorts_45 : decode cL_sorts 45 = .ok (.iload_n 1, 1) := by decide +kernel
theorem dL_sorts_46 : decode cL_sorts 46 = .ok (.invokevirtual 37, 3) := by decide +kernel
theorem dL_sorts_49 : decode cL_sorts 49 = .ok (.istore 4, 2) := by decide +kernel
theorem dL_sorts_51 : decode cL_sorts 51 = .ok (.iload_n 2, 1) := by decide +kernel
theorem dL_sorts_52 : decode cL_sorts 52 = .ok (.iload_n 3, 1) := by decide +kernel
theorem dL_sorts_53 : decode cL_sorts 53 = .ok (.if_icmp .lt 66, 3) := by decide +kernel
theorem dL_sorts_56 : decode cL_sorts 56 = .ok (.iload 4, 2) := by decide +kernel
theorem dL_sorts_58 : decode cL_sorts 58 = .ok (.iload_n 2, 1) := by decide +kernel
theorem dL_sorts_59 : decode cL_sorts 59 = .ok (.if_icmp .lt 60, 3) := by decide +kernel
theorem dL_sorts_62 : decode cL_sorts 62 = .ok (.iload_n 2, 1) := by decide +kernel
theorem dL_sorts_63 : decode cL_sorts 63 = .ok (.iconst 5, 1) := by decide +kernel
theorem dL_sorts_64 : decode cL_sorts 64 = .ok (.if_icmp .gt 12, 3) := by decide +kernel
theorem dL_sorts_67 : decode cL_sorts 67 = .ok (.aload_n 0, 1) := by decide +kernel
theorem dL_sorts_68 : decode cL_sorts 68 = .ok (.iload_n 1, 1) := by decide +kernel
theorem dL_sorts_69 : decode cL_sorts 69 = .ok (.iload_n 2, 1) := by decide +kernel
theorem dL_sorts_70 : decode cL_sorts 70 = .ok (.invokevirtual 40, 3) := by decide +kernel
theorem dL_sorts_73 : decode cL_sorts 73 = .ok (.ifCond .le 46, 3) := by decide +kernel
theorem dL_sorts_76 : decode cL_sorts 76 = .ok (.iload_n 2, 1) := by decide +kernel
theorem dL_sorts_77 : decode cL_sorts 77 = .ok (.ifCond .eq 29, 3) := by decide +kernel
theorem dL_sorts_80 : decode cL_sorts 80 = .ok (.iload_n 2, 1) := by decide +kernel
theorem dL_sorts_81 : decode cL_sorts 81 = .ok (.bipush 6, 2) := by decide +kernel
theorem dL_sorts_83 : decode cL_sorts 83 = .ok (.if_icmp .gt 23, 3) := by decide +kernel
theorem dL_sorts_86 : decode cL_sorts 86 = .ok (.aload_n 0, 1) := by decide +kernel
theorem dL_sorts_87 : decode cL_sorts 87 = .ok (.iload_n 1, 1) := by decide +kernel
theorem dL_sorts_88 : decode cL_sorts 88 = .ok (.iload_n 2, 1) := by decide +kernel
theorem dL_sorts_89 : decode cL_sorts 89 = .ok (.iconst 5, 1) := by decide +kernel
theorem dL_sorts_90 : decode cL_sorts 90 = .ok (.if_icmp .le 7, 3) := by decide +kernel
theorem dL_sorts_93 : decode cL_sorts 93 = .ok (.iconst 5, 1) := by decide +kernel
theorem dL_sorts_94 : decode cL_sorts 94 = .ok (.goto 6, 3) := by decide +kernel
theorem dL_sorts_97 : decode cL_sorts 97 = .ok (.iload_n 2, 1) := by decide +kernel
theorem dL_sorts_98 : decode cL_sorts 98 = .ok (.iconst 1, 1) := by decide +kernel
theorem dL_sorts_99 : decode cL_sorts 99 = .ok (.isub, 1) := by decide +kernel
theorem dL_sorts_100 : decode cL_sorts 100 = .ok (.invokevirtual 40, 3) := by decide +kernel
theorem dL_sorts_103 : decode cL_sorts 103 = .ok (.ifCond .ne 16, 3) := by decide +kernel
theorem dL_sorts_106 : decode cL_sorts 106 = .ok (.aload_n 0, 1) := by decide +kernel
theorem dL_sorts_107 : decode cL_sorts 107 = .ok (.iload_n 1, 1) := by decide +kernel
theorem dL_sorts_108 : decode cL_sorts 108 = .ok (.iload_n 2, 1) := by decide +kernel
theorem dL_sorts_109 : decode cL_sorts 109 = .ok (.invokevirtual 43, 3) := by decide +kernel
theorem dL_sorts_112 : decode cL_sorts 112 = .ok (.ifCond .le 7, 3) := by decide +kernel
theorem dL_sorts_115 : decode cL_sorts 115 = .ok (.iconst 1, 1) := by decide +kernel
theorem dL_sorts_116 : decode cL_sorts 116 = .ok (.goto 4, 3) := by decide +kernel
theorem dL_sorts_119 : decode cL_sorts 119 = .ok (.iconst 0, 1) := by decide +kernel
theorem dL_sorts_120 : decode cL_sorts 120 = .ok (.istore 5, 2) := by decide +kernel
theorem dL_sorts_122 : decode cL_sorts 122 = .ok (.iload 5, 2) := by decide +kernel
theorem dL_sorts_124 : decode cL_sorts 124 = .ok (.ifCond .eq 60, 3) := by decide +kernel
theorem dL_sorts_127 : decode cL_sorts 127 = .ok (.iload_n 2, 1) := by decide +kernel
theorem dL_sorts_128 : decode cL_sorts 128 = .ok (.ifCond .le 56, 3) := by decide +kernel
theorem dL_sorts_131 : decode cL_sorts 131 = .ok (.iload_n 2, 1) := by decide +kernel
theorem dL_sorts_132 : decode cL_sorts 132 = .ok (.bipush 9, 2) := by decide +kernel
theorem dL_sorts_134 : decode cL_sorts 134 = .ok (.if_icmp .ge 50, 3) := by decide +kernel
theorem dL_sorts_137 : decode cL_sorts 137 = .ok (.iload_n 2, 1) := by decide +kernel
theorem dL_sorts_138 : decode cL_sorts 138 = .ok (.iconst 2, 1) := by decide +kernel
theorem dL_sorts_139 : decode cL_sorts 139 = .ok (.irem, 1) := by decide +kernel
theorem dL_sorts_140 : decode cL_sorts 140 = .ok (.ifCond .ne 44, 3) := by decide +kernel
theorem dL_sorts_143 : decode cL_sorts 143 = .ok (.aload_n 0, 1) := by decide +kernel
theorem dL_sorts_144 : decode cL_sorts 144 = .ok (.iload_n 1, 1) := by decide +kernel
theorem dL_sorts_145 : decode cL_sorts 145 = .ok (.aload_n 0, 1) := by decide +kernel
theorem dL_sorts_146 : decode cL_sorts 146 = .ok (.iload_n 1, 1) := by decide +kernel
theorem dL_sorts_147 : decode cL_sorts 147 = .ok (.iconst 1, 1) := by decide +kernel
theorem dL_sorts_148 : decode cL_sorts 148 = .ok (.invokevirtual 33, 3) := by decide +kernel
theorem dL_sorts_151 : decode cL_sorts 151 = .ok (.invokevirtual 46, 3) := by decide +kernel
theorem dL_sorts_154 : decode cL_sorts 154 = .ok (.ifCond .ne 27, 3) := by decide +kernel
theorem dL_sorts_157 : decode cL_sorts 157 = .ok (.aload_n 0, 1) := by decide +kernel
theorem dL_sorts_158 : decode cL_sorts 158 = .ok (.iload_n 1, 1) := by decide +kernel
theorem dL_sorts_159 : decode cL_sorts 159 = .ok (.bipush 6, 2) := by decide +kernel
theorem dL_sorts_161 : decode cL_sorts 161 = .ok (.invokevirtual 15, 3) := by decide +kernel
theorem dL_sorts_164 : decode cL_sorts 164 = .ok (.iconst 1, 1) := by decide +kernel
theorem dL_sorts_165 : decode cL_sorts 165 = .ok (.if_icmp .ne 16, 3) := by decide +kernel
theorem dL_sorts_168 : decode cL_sorts 168 = .ok (.aload_n 0, 1) := by decide +kernel
theorem dL_sorts_169 : decode cL_sorts 169 = .ok (.iload_n 1, 1) := by decide +kernel
theorem dL_sorts_170 : decode cL_sorts 170 = .ok (.iconst 0, 1) := by decide +kernel
theorem dL_sorts_171 : decode cL_sorts 171 = .ok (.invokevirtual 33, 3) := by decide +kernel
theorem dL_sorts_174 : decode cL_sorts 174 = .ok (.ifCond .ne 7, 3) := by decide +kernel
theorem dL_sorts_177 : decode cL_sorts 177 = .ok (.iconst 1, 1) := by decide +kernel
theorem dL_sorts_178 : decode cL_sorts 178 = .ok (.goto 4, 3) := by decide +kernel
theorem dL_sorts_181 : decode cL_sorts 181 = .ok (.iconst 0, 1) := by decide +kernel
theorem dL_sorts_182 : decode cL_sorts 182 = .ok (.istore 5, 2) := by decide +kernel
theorem dL_sorts_184 : decode cL_sorts 184 = .ok (.iload 5, 2) := by decide +kernel
theorem dL_sorts_186 : decode cL_sorts 186 = .ok (.ireturn, 1) := by decide +kernel
theorem dL_law_0 : decode cL_law 0 = .ok (.new 10, 3) := by decide +kernel
theorem dL_law_3 : decode cL_law 3 = .ok (.dup, 1) := by decide +kernel
theorem dL_law_4 : decode cL_law 4 = .ok (.invokespecial 49, 3) := by decide +kernel
theorem dL_law_7 : decode cL_law 7 = .ok (.astore_n 1, 1) := by decide +kernel
theorem dL_law_8 : decode cL_law 8 = .ok (.aload_n 1, 1) := by decide +kernel
theorem dL_law_9 : decode cL_law 9 = .ok (.invokestatic 50, 3) := by decide +kernel
theorem dL_law_12 : decode cL_law 12 = .ok (.istore_n 2, 1) := by decide +kernel
theorem dL_law_13 : decode cL_law 13 = .ok (.iconst 0, 1) := by decide +kernel
theorem dL_law_14 : decode cL_law 14 = .ok (.istore_n 3, 1) := by decide +kernel
theorem dL_law_15 : decode cL_law 15 = .ok (.iload_n 3, 1) := by decide +kernel
theorem dL_law_16 : decode cL_law 16 = .ok (.iconst 4, 1) := by decide +kernel
theorem dL_law_17 : decode cL_law 17 = .ok (.if_icmp .ge 79, 3) := by decide +kernel
theorem dL_law_20 : decode cL_law 20 = .ok (.iload_n 2, 1) := by decide +kernel
theorem dL_law_21 : decode cL_law 21 = .ok (.ifCond .eq 75, 3) := by decide +kernel
theorem dL_law_24 : decode cL_law 24 = .ok (.aload_n 0, 1) := by decide +kernel
theorem dL_law_25 : decode cL_law 25 = .ok (.iload_n 3, 1) := by decide +kernel
theorem dL_law_26 : decode cL_law 26 = .ok (.invokestatic 56, 3) := by decide +kernel
theorem dL_law_29 : decode cL_law 29 = .ok (.istore 4, 2) := by decide +kernel
theorem dL_law_31 : decode cL_law 31 = .ok (.aload_n 1, 1) := by decide +kernel
theorem dL_law_32 : decode cL_law 32 = .ok (.iload_n 3, 1) := by decide +kernel
theorem dL_law_33 : decode cL_law 33 = .ok (.iconst 1, 1) := by decide +kernel
theorem dL_law_34 : decode cL_law 34 = .ok (.iload 4, 2) := by decide +kernel
theorem dL_law_36 : decode cL_law 36 = .ok (.iconst 4, 1) := by decide +kernel
theorem dL_law_37 : decode cL_law 37 = .ok (.irem, 1) := by decide +kernel
theorem dL_law_38 : decode cL_law 38 = .ok (.iadd, 1) := by decide +kernel
theorem dL_law_39 : decode cL_law 39 = .ok (.iload_n 3, 1) := by decide +kernel
theorem dL_law_40 : decode cL_law 40 = .ok (.iconst 3, 1) := by decide +kernel
theorem dL_law_41 : decode cL_law 41 = .ok (.if_icmp .ne 15, 3) := by decide +kernel
theorem dL_law_44 : decode cL_law 44 = .ok (.iconst 1, 1) := by decide +kernel
theorem dL_law_45 : decode cL_law 45 = .ok (.iload 4, 2) := by decide +kernel
theorem dL_law_47 : decode cL_law 47 = .ok (.iconst 4, 1) := by decide +kernel
theorem dL_law_48 : decode cL_law 48 = .ok (.idiv, 1) := by decide +kernel
theorem dL_law_49 : decode cL_law 49 = .ok (.bipush 12, 2) := by decide +kernel
theorem dL_law_51 : decode cL_law 51 = .ok (.irem, 1) := by decide +kernel
theorem dL_law_52 : decode cL_law 52 = .ok (.iadd, 1) := by decide +kernel
theorem dL_law_53 : decode cL_law 53 = .ok (.goto 4, 3) := by decide +kernel
theorem dL_law_56 : decode cL_law 56 = .ok (.iconst 0, 1) := by decide +kernel
theorem dL_law_57 : decode cL_law 57 = .ok (.invokevirtual 60, 3) := by decide +kernel
theorem dL_law_60 : decode cL_law 60 = .ok (.iload_n 3, 1) := by decide +kernel
theorem dL_law_61 : decode cL_law 61 = .ok (.if_icmp .ne 27, 3) := by decide +kernel
theorem dL_law_64 : decode cL_law 64 = .ok (.aload_n 1, 1) := by decide +kernel
theorem dL_law_65 : decode cL_law 65 = .ok (.iload_n 3, 1) := by decide +kernel
theorem dL_law_66 : decode cL_law 66 = .ok (.bipush 6, 2) := by decide +kernel
theorem dL_law_68 : decode cL_law 68 = .ok (.invokevirtual 15, 3) := by decide +kernel
theorem dL_law_71 : decode cL_law 71 = .ok (.iconst 1, 1) := by decide +kernel
theorem dL_law_72 : decode cL_law 72 = .ok (.if_icmp .ne 16, 3) := by decide +kernel
theorem dL_law_75 : decode cL_law 75 = .ok (.aload_n 1, 1) := by decide +kernel
theorem dL_law_76 : decode cL_law 76 = .ok (.iload_n 3, 1) := by decide +kernel
theorem dL_law_77 : decode cL_law 77 = .ok (.iconst 0, 1) := by decide +kernel
theorem dL_law_78 : decode cL_law 78 = .ok (.invokevirtual 33, 3) := by decide +kernel
theorem dL_law_81 : decode cL_law 81 = .ok (.ifCond .ne 7, 3) := by decide +kernel
theorem dL_law_84 : decode cL_law 84 = .ok (.iconst 1, 1) := by decide +kernel
theorem dL_law_85 : decode cL_law 85 = .ok (.goto 4, 3) := by decide +kernel
theorem dL_law_88 : decode cL_law 88 = .ok (.iconst 0, 1) := by decide +kernel
theorem dL_law_89 : decode cL_law 89 = .ok (.istore_n 2, 1) := by decide +kernel
theorem dL_law_90 : decode cL_law 90 = .ok (.iinc 3 1, 3) := by decide +kernel
theorem dL_law_93 : decode cL_law 93 = .ok (.goto (-78), 3) := by decide +kernel
theorem dL_law_96 : decode cL_law 96 = .ok (.iconst 0, 1) := by decide +kernel
theorem dL_law_97 : decode cL_law 97 = .ok (.istore_n 3, 1) := by decide +kernel
theorem dL_law_98 : decode cL_law 98 = .ok (.iload_n 3, 1) := by decide +kernel
theorem dL_law_99 : decode cL_law 99 = .ok (.bipush 30, 2) := by decide +kernel
theorem dL_law_101 : decode cL_law 101 = .ok (.if_icmp .ge 182, 3) := by decide +kernel
theorem dL_law_104 : decode cL_law 104 = .ok (.iload_n 2, 1) := by decide +kernel
theorem dL_law_105 : decode cL_law 105 = .ok (.ifCond .eq 178, 3) := by decide +kernel
theorem dL_law_108 : decode cL_law 108 = .ok (.aload_n 0, 1) := by decide +kernel
theorem dL_law_109 : decode cL_law 109 = .ok (.iconst 4, 1) := by decide +kernel
theorem dL_law_110 : decode cL_law 110 = .ok (.iload_n 3, 1) := by decide +kernel
theorem dL_law_111 : decode cL_law 111 = .ok (.iadd, 1) := by decide +kernel
theorem dL_law_112 : decode cL_law 112 = .ok (.invokestatic 56, 3) := by decide +kernel
theorem dL_law_115 : decode cL_law 115 = .ok (.istore 4, 2) := by decide +kernel
theorem dL_law_117 : decode cL_law 117 = .ok (.iload 4, 2) := by decide +kernel
theorem dL_law_119 : decode cL_law 119 = .ok (.bipush 8, 2) := by decide +kernel
theorem dL_law_121 : decode cL_law 121 = .ok (.idiv, 1) := by decide +kernel
theorem dL_law_122 : decode cL_law 122 = .ok (.istore 5, 2) := by decide +kernel
theorem dL_law_124 : decode cL_law 124 = .ok (.iload 5, 2) := by decide +kernel
theorem dL_law_126 : decode cL_law 126 = .ok (.iconst 4, 1) := by decide +kernel
theorem dL_law_127 : decode cL_law 127 = .ok (.irem, 1) := by decide +kernel
theorem dL_law_128 : decode cL_law 128 = .ok (.istore 6, 2) := by decide +kernel
theorem dL_law_130 : decode cL_law 130 = .ok (.iload 4, 2) := by decide +kernel
theorem dL_law_132 : decode cL_law 132 = .ok (.bipush 8, 2) := by decide +kernel
theorem dL_law_134 : decode cL_law 134 = .ok (.irem, 1) := by decide +kernel
theorem dL_law_135 : decode cL_law 135 = .ok (.lookupswitch 104 #[(0, 25), (1, 35)], 25) := by decide +kernel
theorem dL_law_160 : decode cL_law 160 = .ok (.aload_n 1, 1) := by decide +kernel
theorem dL_law_161 : decode cL_law 161 = .ok (.iload 6, 2) := by decide +kernel
theorem dL_law_163 : decode cL_law 163 = .ok (.invokestatic 64, 3) := by decide +kernel
theorem dL_law_166 : decode cL_law 166 = .ok (.istore_n 2, 1) := by decide +kernel
theorem dL_law_167 : decode cL_law 167 = .ok (.goto 93, 3) := by decide +kernel
theorem dL_law_170 : decode cL_law 170 = .ok (.iload 5, 2) := by decide +kernel
theorem dL_law_172 : decode cL_law 172 = .ok (.iconst 4, 1) := by decide +kernel
theorem dL_law_173 : decode cL_law 173 = .ok (.idiv, 1) := by decide +kernel
theorem dL_law_174 : decode cL_law 174 = .ok (.bipush 24, 2) := by decide +kernel
theorem dL_law_176 : decode cL_law 176 = .ok (.irem, 1) := by decide +kernel
theorem dL_law_177 : decode cL_law 177 = .ok (.istore 7, 2) := by decide +kernel
theorem dL_law_179 : decode cL_law 179 = .ok (.aload_n 1, 1) := by decide +kernel
theorem dL_law_180 : decode cL_law 180 = .ok (.iload 6, 2) := by decide +kernel
theorem dL_law_182 : decode cL_law 182 = .ok (.iload 7, 2) := by decide +kernel
theorem dL_law_184 : decode cL_law 184 = .ok (.iconst 0, 1) := by decide +kernel
theorem dL_law_185 : decode cL_law 185 = .ok (.invokevirtual 68, 3) := by decide +kernel
theorem dL_law_188 : decode cL_law 188 = .ok (.istore 8, 2) := by decide +kernel
theorem dL_law_190 : decode cL_law 190 = .ok (.iload 8, 2) := by decide +kernel
theorem dL_law_192 : decode cL_law 192 = .ok (.ldc 36, 2) := by decide +kernel
theorem dL_law_194 : decode cL_law 194 = .ok (.if_icmp .eq 36, 3) := by decide +kernel
theorem dL_law_197 : decode cL_law 197 = .ok (.aload_n 1, 1) := by decide +kernel
theorem dL_law_198 : decode cL_law 198 = .ok (.iload 6, 2) := by decide +kernel
theorem dL_law_200 : decode cL_law 200 = .ok (.iload 8, 2) := by decide +kernel
theorem dL_law_202 : decode cL_law 202 = .ok (.aload_n 1, 1) := by decide +kernel
theorem dL_law_203 : decode cL_law 203 = .ok (.iload 6, 2) := by decide +kernel
theorem dL_law_205 : decode cL_law 205 = .ok (.iload 7, 2) := by decide +kernel
theorem dL_law_207 : decode cL_law 207 = .ok (.iconst 1, 1) := by decide +kernel
theorem dL_law_208 : decode cL_law 208 = .ok (.invokevirtual 68, 3) := by decide +kernel
theorem dL_law_211 : decode cL_law 211 = .ok (.invokevirtual 71, 3) := by decide +kernel
theorem dL_law_214 : decode cL_law 214 = .ok (.ifCond .lt 20, 3) := by decide +kernel
theorem dL_law_217 : decode cL_law 217 = .ok (.aload_n 1, 1) := by decide +kernel
theorem dL_law_218 : decode cL_law 218 = .ok (.iload 6, 2) := by decide +kernel
theorem dL_law_220 : decode cL_law 220 = .ok (.bipush 7, 2) := by decide +kernel
theorem dL_law_222 : decode cL_law 222 = .ok (.invokevirtual 15, 3) := by decide +kernel
theorem dL_law_225 : decode cL_law 225 = .ok (.iload 7, 2) := by decide +kernel
theorem dL_law_227 : decode cL_law 227 = .ok (.if_icmp .ne 7, 3) := by decide +kernel
theorem dL_law_230 : decode cL_law 230 = .ok (.iconst 1, 1) := by decide +kernel
theorem dL_law_231 : decode cL_law 231 = .ok (.goto 4, 3) := by decide +kernel
theorem dL_law_234 : decode cL_law 234 = .ok (.iconst 0, 1) := by decide +kernel
theorem dL_law_235 : decode cL_law 235 = .ok (.istore_n 2, 1) := by decide +kernel
theorem dL_law_236 : decode cL_law 236 = .ok (.goto 24, 3) := by decide +kernel
theorem dL_law_239 : decode cL_law 239 = .ok (.aload_n 1, 1) := by decide +kernel
theorem dL_law_240 : decode cL_law 240 = .ok (.iload 6, 2) := by decide +kernel
theorem dL_law_242 : decode cL_law 242 = .ok (.iconst 1, 1) := by decide +kernel
theorem dL_law_243 : decode cL_law 243 = .ok (.iload 5, 2) := by decide +kernel
theorem dL_law_245 : decode cL_law 245 = .ok (.iconst 4, 1) := by decide +kernel
theorem dL_law_246 : decode cL_law 246 = .ok (.idiv, 1) := by decide +kernel
theorem dL_law_247 : decode cL_law 247 = .ok (.aload_n 1, 1) := by decide +kernel
theorem dL_law_248 : decode cL_law 248 = .ok (.iload 6, 2) := by decide +kernel
theorem dL_law_250 : decode cL_law 250 = .ok (.iconst 1, 1) := by decide +kernel
theorem dL_law_251 : decode cL_law 251 = .ok (.invokevirtual 15, 3) := by decide +kernel
theorem dL_law_254 : decode cL_law 254 = .ok (.irem, 1) := by decide +kernel
theorem dL_law_255 : decode cL_law 255 = .ok (.iadd, 1) := by decide +kernel
theorem dL_law_256 : decode cL_law 256 = .ok (.invokestatic 74, 3) := by decide +kernel
theorem dL_law_259 : decode cL_law 259 = .ok (.istore_n 2, 1) := by decide +kernel
theorem dL_law_260 : decode cL_law 260 = .ok (.iload_n 2, 1) := by decide +kernel
theorem dL_law_261 : decode cL_law 261 = .ok (.ifCond .eq 14, 3) := by decide +kernel
theorem dL_law_264 : decode cL_law 264 = .ok (.aload_n 1, 1) := by decide +kernel
theorem dL_law_265 : decode cL_law 265 = .ok (.invokestatic 50, 3) := by decide +kernel
theorem dL_law_268 : decode cL_law 268 = .ok (.ifCond .eq 7, 3) := by decide +kernel
theorem dL_law_271 : decode cL_law 271 = .ok (.iconst 1, 1) := by decide +kernel
theorem dL_law_272 : decode cL_law 272 = .ok (.goto 4, 3) := by decide +kernel
theorem dL_law_275 : decode cL_law 275 = .ok (.iconst 0, 1) := by decide +kernel
theorem dL_law_276 : decode cL_law 276 = .ok (.istore_n 2, 1) := by decide +kernel
theorem dL_law_277 : decode cL_law 277 = .ok (.iinc 3 1, 3) := by decide +kernel
theorem dL_law_280 : decode cL_law 280 = .ok (.goto (-182), 3) := by decide +kernel
theorem dL_law_283 : decode cL_law 283 = .ok (.aload_n 1, 1) := by decide +kernel
theorem dL_law_284 : decode cL_law 284 = .ok (.bipush 10, 2) := by decide +kernel
theorem dL_law_286 : decode cL_law 286 = .ok (.invokevirtual 9, 3) := by decide +kernel
theorem dL_law_289 : decode cL_law 289 = .ok (.istore_n 3, 1) := by decide +kernel
theorem dL_law_290 : decode cL_law 290 = .ok (.aload_n 1, 1) := by decide +kernel
theorem dL_law_291 : decode cL_law 291 = .ok (.iconst 3, 1) := by decide +kernel
theorem dL_law_292 : decode cL_law 292 = .ok (.invokevirtual 9, 3) := by decide +kernel
theorem dL_law_295 : decode cL_law 295 = .ok (.istore 4, 2) := by decide +kernel
theorem dL_law_297 : decode cL_law 297 = .ok (.iload_n 2, 1) := by decide +kernel
theorem dL_law_298 : decode cL_law 298 = .ok (.ifCond .eq 30, 3) := by decide +kernel
theorem dL_law_301 : decode cL_law 301 = .ok (.aload_n 1, 1) := by decide +kernel
theorem dL_law_302 : decode cL_law 302 = .ok (.iconst 0, 1) := by decide +kernel
theorem dL_law_303 : decode cL_law 303 = .ok (.aload_n 1, 1) := by decide +kernel
theorem dL_law_304 : decode cL_law 304 = .ok (.iconst 0, 1) := by decide +kernel
theorem dL_law_305 : decode cL_law 305 = .ok (.iconst 0, 1) := by decide +kernel
theorem dL_law_306 : decode cL_law 306 = .ok (.iconst 0, 1) := by decide +kernel
theorem dL_law_307 : decode cL_law 307 = .ok (.invokevirtual 68, 3) := by decide +kernel
theorem dL_law_310 : decode cL_law 310 = .ok (.iconst 0, 1) := by decide +kernel
theorem dL_law_311 : decode cL_law 311 = .ok (.invokevirtual 71, 3) := by decide +kernel
theorem dL_law_314 : decode cL_law 314 = .ok (.ifCond .ne 14, 3) := by decide +kernel
theorem dL_law_317 : decode cL_law 317 = .ok (.aload_n 1, 1) := by decide +kernel
theorem dL_law_318 : decode cL_law 318 = .ok (.invokevirtual 29, 3) := by decide +kernel
theorem dL_law_321 : decode cL_law 321 = .ok (.ifCond .lt 7, 3) := by decide +kernel
theorem dL_law_324 : decode cL_law 324 = .ok (.iconst 1, 1) := by decide +kernel
theorem dL_law_325 : decode cL_law 325 = .ok (.goto 4, 3) := by decide +kernel
theorem dL_law_328 : decode cL_law 328 = .ok (.iconst 0, 1) := by decide +kernel
theorem dL_law_329 : decode cL_law 329 = .ok (.istore_n 2, 1) := by decide +kernel
theorem dL_law_330 : decode cL_law 330 = .ok (.iload_n 2, 1) := by decide +kernel
theorem dL_law_331 : decode cL_law 331 = .ok (.ifCond .eq 34, 3) := by decide +kernel
theorem dL_law_334 : decode cL_law 334 = .ok (.aload_n 1, 1) := by decide +kernel
theorem dL_law_335 : decode cL_law 335 = .ok (.bipush 10, 2) := by decide +kernel
theorem dL_law_337 : decode cL_law 337 = .ok (.invokevirtual 9, 3) := by decide +kernel
theorem dL_law_340 : decode cL_law 340 = .ok (.iload_n 3, 1) := by decide +kernel
theorem dL_law_341 : decode cL_law 341 = .ok (.if_icmp .ne 24, 3) := by decide +kernel
theorem dL_law_344 : decode cL_law 344 = .ok (.aload_n 1, 1) := by decide +kernel
theorem dL_law_345 : decode cL_law 345 = .ok (.iconst 3, 1) := by decide +kernel
theorem dL_law_346 : decode cL_law 346 = .ok (.invokevirtual 9, 3) := by decide +kernel
theorem dL_law_349 : decode cL_law 349 = .ok (.iload 4, 2) := by decide +kernel
theorem dL_law_351 : decode cL_law 351 = .ok (.if_icmp .ne 14, 3) := by decide +kernel
theorem dL_law_354 : decode cL_law 354 = .ok (.aload_n 1, 1) := by decide +kernel
theorem dL_law_355 : decode cL_law 355 = .ok (.invokestatic 50, 3) := by decide +kernel
theorem dL_law_358 : decode cL_law 358 = .ok (.ifCond .eq 7, 3) := by decide +kernel
theorem dL_law_361 : decode cL_law 361 = .ok (.iconst 1, 1) := by decide +kernel
theorem dL_law_362 : decode cL_law 362 = .ok (.goto 4, 3) := by decide +kernel
theorem dL_law_365 : decode cL_law 365 = .ok (.iconst 0, 1) := by decide +kernel
theorem dL_law_366 : decode cL_law 366 = .ok (.ireturn, 1) := by decide +kernel
