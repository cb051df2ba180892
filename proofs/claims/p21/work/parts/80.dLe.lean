theorem dL_areConnections_0 : decode cL_areConnections 0 = .ok (.iconst 0, 1) := by decide +kernel
theorem dL_areConnections_1 : decode cL_areConnections 1 = .ok (.istore_n 3, 1) := by decide +kernel
theorem dL_areConnections_2 : decode cL_areConnections 2 = .ok (.iconst 1, 1) := by decide +kernel
theorem dL_areConnections_3 : decode cL_areConnections 3 = .ok (.istore 4, 2) := by decide +kernel
theorem dL_areConnections_5 : decode cL_areConnections 5 = .ok (.iconst 0, 1) := by decide +kernel
theorem dL_areConnections_6 : decode cL_areConnections 6 = .ok (.istore 5, 2) := by decide +kernel
theorem dL_areConnections_8 : decode cL_areConnections 8 = .ok (.iload 5, 2) := by decide +kernel
theorem dL_areConnections_10 : decode cL_areConnections 10 = .ok (.aload_n 1, 1) := by decide +kernel
theorem dL_areConnections_11 : decode cL_areConnections 11 = .ok (.iconst 0, 1) := by decide +kernel
theorem dL_areConnections_12 : decode cL_areConnections 12 = .ok (.iaload, 1) := by decide +kernel
theorem dL_areConnections_13 : decode cL_areConnections 13 = .ok (.if_icmp .ge 335, 3) := by decide +kernel
theorem dL_areConnections_16 : decode cL_areConnections 16 = .ok (.iload 4, 2) := by decide +kernel
theorem dL_areConnections_18 : decode cL_areConnections 18 = .ok (.ifCond .eq 330, 3) := by decide +kernel
theorem dL_areConnections_21 : decode cL_areConnections 21 = .ok (.iconst 0, 1) := by decide +kernel
theorem dL_areConnections_22 : decode cL_areConnections 22 = .ok (.istore 6, 2) := by decide +kernel
theorem dL_areConnections_24 : decode cL_areConnections 24 = .ok (.iconst 0, 1) := by decide +kernel
theorem dL_areConnections_25 : decode cL_areConnections 25 = .ok (.istore 7, 2) := by decide +kernel
theorem dL_areConnections_27 : decode cL_areConnections 27 = .ok (.iload 7, 2) := by decide +kernel
theorem dL_areConnections_29 : decode cL_areConnections 29 = .ok (.aload_n 1, 1) := by decide +kernel
theorem dL_areConnections_30 : decode cL_areConnections 30 = .ok (.iconst 0, 1) := by decide +kernel
theorem dL_areConnections_31 : decode cL_areConnections 31 = .ok (.iaload, 1) := by decide +kernel
theorem dL_areConnections_32 : decode cL_areConnections 32 = .ok (.if_icmp .ge 287, 3) := by decide +kernel
theorem dL_areConnections_35 : decode cL_areConnections 35 = .ok (.iload 4, 2) := by decide +kernel
theorem dL_areConnections_37 : decode cL_areConnections 37 = .ok (.ifCond .eq 282, 3) := by decide +kernel
theorem dL_areConnections_40 : decode cL_areConnections 40 = .ok (.iload 7, 2) := by decide +kernel
theorem dL_areConnections_42 : decode cL_areConnections 42 = .ok (.iload 5, 2) := by decide +kernel
theorem dL_areConnections_44 : decode cL_areConnections 44 = .ok (.if_icmp .eq 269, 3) := by decide +kernel
theorem dL_areConnections_47 : decode cL_areConnections 47 = .ok (.aload_n 0, 1) := by decide +kernel
theorem dL_areConnections_48 : decode cL_areConnections 48 = .ok (.iload 7, 2) := by decide +kernel
theorem dL_areConnections_50 : decode cL_areConnections 50 = .ok (.iload 5, 2) := by decide +kernel
theorem dL_areConnections_52 : decode cL_areConnections 52 = .ok (.invokevirtual 58, 3) := by decide +kernel
theorem dL_areConnections_55 : decode cL_areConnections 55 = .ok (.istore 8, 2) := by decide +kernel
theorem dL_areConnections_57 : decode cL_areConnections 57 = .ok (.aload_n 0, 1) := by decide +kernel
theorem dL_areConnections_58 : decode cL_areConnections 58 = .ok (.iload 7, 2) := by decide +kernel
theorem dL_areConnections_60 : decode cL_areConnections 60 = .ok (.iload 5, 2) := by decide +kernel
theorem dL_areConnections_62 : decode cL_areConnections 62 = .ok (.iload_n 2, 1) := by decide +kernel
theorem dL_areConnections_63 : decode cL_areConnections 63 = .ok (.invokevirtual 61, 3) := by decide +kernel
theorem dL_areConnections_66 : decode cL_areConnections 66 = .ok (.istore 9, 2) := by decide +kernel
theorem dL_areConnections_68 : decode cL_areConnections 68 = .ok (.aload_n 0, 1) := by decide +kernel
theorem dL_areConnections_69 : decode cL_areConnections 69 = .ok (.iload 7, 2) := by decide +kernel
theorem dL_areConnections_71 : decode cL_areConnections 71 = .ok (.iload 5, 2) := by decide +kernel
theorem dL_areConnections_73 : decode cL_areConnections 73 = .ok (.iload_n 2, 1) := by decide +kernel
theorem dL_areConnections_74 : decode cL_areConnections 74 = .ok (.invokevirtual 84, 3) := by decide +kernel
theorem dL_areConnections_77 : decode cL_areConnections 77 = .ok (.istore 10, 2) := by decide +kernel
theorem dL_areConnections_79 : decode cL_areConnections 79 = .ok (.iload 8, 2) := by decide +kernel
theorem dL_areConnections_81 : decode cL_areConnections 81 = .ok (.iload_n 2, 1) := by decide +kernel
theorem dL_areConnections_82 : decode cL_areConnections 82 = .ok (.ishr, 1) := by decide +kernel
theorem dL_areConnections_83 : decode cL_areConnections 83 = .ok (.iconst 1, 1) := by decide +kernel
theorem dL_areConnections_84 : decode cL_areConnections 84 = .ok (.iand, 1) := by decide +kernel
theorem dL_areConnections_85 : decode cL_areConnections 85 = .ok (.iconst 1, 1) := by decide +kernel
theorem dL_areConnections_86 : decode cL_areConnections 86 = .ok (.if_icmp .ne 7, 3) := by decide +kernel
theorem dL_areConnections_89 : decode cL_areConnections 89 = .ok (.iconst 1, 1) := by decide +kernel
theorem dL_areConnections_90 : decode cL_areConnections 90 = .ok (.goto 4, 3) := by decide +kernel
theorem dL_areConnections_93 : decode cL_areConnections 93 = .ok (.iconst 0, 1) := by decide +kernel
theorem dL_areConnections_94 : decode cL_areConnections 94 = .ok (.istore 11, 2) := by decide +kernel
theorem dL_areConnections_96 : decode cL_areConnections 96 = .ok (.iload_n 3, 1) := by decide +kernel
theorem dL_areConnections_97 : decode cL_areConnections 97 = .ok (.iload 11, 2) := by decide +kernel
theorem dL_areConnections_99 : decode cL_areConnections 99 = .ok (.ifCond .eq 7, 3) := by decide +kernel
theorem dL_areConnections_102 : decode cL_areConnections 102 = .ok (.iconst 1, 1) := by decide +kernel
theorem dL_areConnections_103 : decode cL_areConnections 103 = .ok (.goto 4, 3) := by decide +kernel
theorem dL_areConnections_106 : decode cL_areConnections 106 = .ok (.iconst 0, 1) := by decide +kernel
theorem dL_areConnections_107 : decode cL_areConnections 107 = .ok (.iadd, 1) := by decide +kernel
theorem dL_areConnections_108 : decode cL_areConnections 108 = .ok (.istore_n 3, 1) := by decide +kernel
theorem dL_areConnections_109 : decode cL_areConnections 109 = .ok (.iload 6, 2) := by decide +kernel
theorem dL_areConnections_111 : decode cL_areConnections 111 = .ok (.iload 8, 2) := by decide +kernel
theorem dL_areConnections_113 : decode cL_areConnections 113 = .ok (.ifCond .ne 7, 3) := by decide +kernel
theorem dL_areConnections_116 : decode cL_areConnections 116 = .ok (.iconst 0, 1) := by decide +kernel
theorem dL_areConnections_117 : decode cL_areConnections 117 = .ok (.goto 7, 3) := by decide +kernel
theorem dL_areConnections_120 : decode cL_areConnections 120 = .ok (.iconst 1, 1) := by decide +kernel
theorem dL_areConnections_121 : decode cL_areConnections 121 = .ok (.iload 7, 2) := by decide +kernel
theorem dL_areConnections_123 : decode cL_areConnections 123 = .ok (.ishl, 1) := by decide +kernel
theorem dL_areConnections_124 : decode cL_areConnections 124 = .ok (.ior, 1) := by decide +kernel
theorem dL_areConnections_125 : decode cL_areConnections 125 = .ok (.istore 6, 2) := by decide +kernel
theorem dL_areConnections_127 : decode cL_areConnections 127 = .ok (.iload 8, 2) := by decide +kernel
theorem dL_areConnections_129 : decode cL_areConnections 129 = .ok (.ifCond .lt 86, 3) := by decide +kernel
theorem dL_areConnections_132 : decode cL_areConnections 132 = .ok (.iload 8, 2) := by decide +kernel
theorem dL_areConnections_134 : decode cL_areConnections 134 = .ok (.ldc 87, 2) := by decide +kernel
theorem dL_areConnections_136 : decode cL_areConnections 136 = .ok (.if_icmp .ge 79, 3) := by decide +kernel
theorem dL_areConnections_139 : decode cL_areConnections 139 = .ok (.iload 9, 2) := by decide +kernel
theorem dL_areConnections_141 : decode cL_areConnections 141 = .ok (.iconst 2, 1) := by decide +kernel
theorem dL_areConnections_142 : decode cL_areConnections 142 = .ok (.irem, 1) := by decide +kernel
theorem dL_areConnections_143 : decode cL_areConnections 143 = .ok (.ifCond .ne 72, 3) := by decide +kernel
theorem dL_areConnections_146 : decode cL_areConnections 146 = .ok (.iload 9, 2) := by decide +kernel
theorem dL_areConnections_148 : decode cL_areConnections 148 = .ok (.sipush 512, 3) := by decide +kernel
theorem dL_areConnections_151 : decode cL_areConnections 151 = .ok (.if_icmp .ge 64, 3) := by decide +kernel
theorem dL_areConnections_154 : decode cL_areConnections 154 = .ok (.iload 11, 2) := by decide +kernel
theorem dL_areConnections_156 : decode cL_areConnections 156 = .ok (.iload 9, 2) := by decide +kernel
theorem dL_areConnections_158 : decode cL_areConnections 158 = .ok (.ifCond .ne 7, 3) := by decide +kernel
theorem dL_areConnections_161 : decode cL_areConnections 161 = .ok (.iconst 1, 1) := by decide +kernel
theorem dL_areConnections_162 : decode cL_areConnections 162 = .ok (.goto 4, 3) := by decide +kernel
theorem dL_areConnections_165 : decode cL_areConnections 165 = .ok (.iconst 0, 1) := by decide +kernel
theorem dL_areConnections_166 : decode cL_areConnections 166 = .ok (.if_icmp .ne 49, 3) := by decide +kernel
theorem dL_areConnections_169 : decode cL_areConnections 169 = .ok (.iload 9, 2) := by decide +kernel
theorem dL_areConnections_171 : decode cL_areConnections 171 = .ok (.ifCond .ne 11, 3) := by decide +kernel
theorem dL_areConnections_174 : decode cL_areConnections 174 = .ok (.iload 10, 2) := by decide +kernel
theorem dL_areConnections_176 : decode cL_areConnections 176 = .ok (.ifCond .ne 39, 3) := by decide +kernel
theorem dL_areConnections_179 : decode cL_areConnections 179 = .ok (.goto 32, 3) := by decide +kernel
theorem dL_areConnections_182 : decode cL_areConnections 182 = .ok (.iload 10, 2) := by decide +kernel
theorem dL_areConnections_184 : decode cL_areConnections 184 = .ok (.iconst 1, 1) := by decide +kernel
theorem dL_areConnections_185 : decode cL_areConnections 185 = .ok (.if_icmp .lt 30, 3) := by decide +kernel
theorem dL_areConnections_188 : decode cL_areConnections 188 = .ok (.iload 9, 2) := by decide +kernel
theorem dL_areConnections_190 : decode cL_areConnections 190 = .ok (.iload 10, 2) := by decide +kernel
theorem dL_areConnections_192 : decode cL_areConnections 192 = .ok (.ishr, 1) := by decide +kernel
theorem dL_areConnections_193 : decode cL_areConnections 193 = .ok (.iconst 1, 1) := by decide +kernel
theorem dL_areConnections_194 : decode cL_areConnections 194 = .ok (.iand, 1) := by decide +kernel
theorem dL_areConnections_195 : decode cL_areConnections 195 = .ok (.iconst 1, 1) := by decide +kernel
theorem dL_areConnections_196 : decode cL_areConnections 196 = .ok (.if_icmp .ne 19, 3) := by decide +kernel
theorem dL_areConnections_199 : decode cL_areConnections 199 = .ok (.iload 9, 2) := by decide +kernel
theorem dL_areConnections_201 : decode cL_areConnections 201 = .ok (.iconst 1, 1) := by decide +kernel
theorem dL_areConnections_202 : decode cL_areConnections 202 = .ok (.iload 10, 2) := by decide +kernel
theorem dL_areConnections_204 : decode cL_areConnections 204 = .ok (.ishl, 1) := by decide +kernel
theorem dL_areConnections_205 : decode cL_areConnections 205 = .ok (.iconst 1, 1) := by decide +kernel
theorem dL_areConnections_206 : decode cL_areConnections 206 = .ok (.isub, 1) := by decide +kernel
theorem dL_areConnections_207 : decode cL_areConnections 207 = .ok (.iand, 1) := by decide +kernel
theorem dL_areConnections_208 : decode cL_areConnections 208 = .ok (.ifCond .ne 7, 3) := by decide +kernel
theorem dL_areConnections_211 : decode cL_areConnections 211 = .ok (.iconst 1, 1) := by decide +kernel
theorem dL_areConnections_212 : decode cL_areConnections 212 = .ok (.goto 4, 3) := by decide +kernel
theorem dL_areConnections_215 : decode cL_areConnections 215 = .ok (.iconst 0, 1) := by decide +kernel
theorem dL_areConnections_216 : decode cL_areConnections 216 = .ok (.istore 4, 2) := by decide +kernel
theorem dL_areConnections_218 : decode cL_areConnections 218 = .ok (.iload 4, 2) := by decide +kernel
theorem dL_areConnections_220 : decode cL_areConnections 220 = .ok (.ifCond .eq 30, 3) := by decide +kernel
theorem dL_areConnections_223 : decode cL_areConnections 223 = .ok (.aload_n 1, 1) := by decide +kernel
theorem dL_areConnections_224 : decode cL_areConnections 224 = .ok (.iconst 4, 1) := by decide +kernel
theorem dL_areConnections_225 : decode cL_areConnections 225 = .ok (.iload 7, 2) := by decide +kernel
theorem dL_areConnections_227 : decode cL_areConnections 227 = .ok (.iadd, 1) := by decide +kernel
theorem dL_areConnections_228 : decode cL_areConnections 228 = .ok (.iaload, 1) := by decide +kernel
theorem dL_areConnections_229 : decode cL_areConnections 229 = .ok (.aload_n 1, 1) := by decide +kernel
theorem dL_areConnections_230 : decode cL_areConnections 230 = .ok (.iconst 4, 1) := by decide +kernel
theorem dL_areConnections_231 : decode cL_areConnections 231 = .ok (.iload 5, 2) := by decide +kernel
theorem dL_areConnections_233 : decode cL_areConnections 233 = .ok (.iadd, 1) := by decide +kernel
theorem dL_areConnections_234 : decode cL_areConnections 234 = .ok (.iaload, 1) := by decide +kernel
theorem dL_areConnections_235 : decode cL_areConnections 235 = .ok (.if_icmp .ne 11, 3) := by decide +kernel
theorem dL_areConnections_238 : decode cL_areConnections 238 = .ok (.iload 9, 2) := by decide +kernel
theorem dL_areConnections_240 : decode cL_areConnections 240 = .ok (.bipush (-35), 2) := by decide +kernel
theorem dL_areConnections_242 : decode cL_areConnections 242 = .ok (.iand, 1) := by decide +kernel
theorem dL_areConnections_243 : decode cL_areConnections 243 = .ok (.ifCond .ne 7, 3) := by decide +kernel
theorem dL_areConnections_246 : decode cL_areConnections 246 = .ok (.iconst 1, 1) := by decide +kernel
theorem dL_areConnections_247 : decode cL_areConnections 247 = .ok (.goto 4, 3) := by decide +kernel
theorem dL_areConnections_250 : decode cL_areConnections 250 = .ok (.iconst 0, 1) := by decide +kernel
theorem dL_areConnections_251 : decode cL_areConnections 251 = .ok (.istore 4, 2) := by decide +kernel
theorem dL_areConnections_253 : decode cL_areConnections 253 = .ok (.iload 4, 2) := by decide +kernel
theorem dL_areConnections_255 : decode cL_areConnections 255 = .ok (.ifCond .eq 55, 3) := by decide +kernel
theorem dL_areConnections_258 : decode cL_areConnections 258 = .ok (.aload_n 1, 1) := by decide +kernel
theorem dL_areConnections_259 : decode cL_areConnections 259 = .ok (.iconst 4, 1) := by decide +kernel
theorem dL_areConnections_260 : decode cL_areConnections 260 = .ok (.iload 7, 2) := by decide +kernel
theorem dL_areConnections_262 : decode cL_areConnections 262 = .ok (.iadd, 1) := by decide +kernel
theorem dL_areConnections_263 : decode cL_areConnections 263 = .ok (.iaload, 1) := by decide +kernel
theorem dL_areConnections_264 : decode cL_areConnections 264 = .ok (.iconst 2, 1) := by decide +kernel
theorem dL_areConnections_265 : decode cL_areConnections 265 = .ok (.idiv, 1) := by decide +kernel
theorem dL_areConnections_266 : decode cL_areConnections 266 = .ok (.aload_n 1, 1) := by decide +kernel
theorem dL_areConnections_267 : decode cL_areConnections 267 = .ok (.iconst 4, 1) := by decide +kernel
theorem dL_areConnections_268 : decode cL_areConnections 268 = .ok (.iload 5, 2) := by decide +kernel
theorem dL_areConnections_270 : decode cL_areConnections 270 = .ok (.iadd, 1) := by decide +kernel
theorem dL_areConnections_271 : decode cL_areConnections 271 = .ok (.iaload, 1) := by decide +kernel
theorem dL_areConnections_272 : decode cL_areConnections 272 = .ok (.iconst 2, 1) := by decide +kernel
theorem dL_areConnections_273 : decode cL_areConnections 273 = .ok (.idiv, 1) := by decide +kernel
theorem dL_areConnections_274 : decode cL_areConnections 274 = .ok (.if_icmp .ne 32, 3) := by decide +kernel
theorem dL_areConnections_277 : decode cL_areConnections 277 = .ok (.aload_n 0, 1) := by decide +kernel
theorem dL_areConnections_278 : decode cL_areConnections 278 = .ok (.aload_n 1, 1) := by decide +kernel
theorem dL_areConnections_279 : decode cL_areConnections 279 = .ok (.iconst 4, 1) := by decide +kernel
theorem dL_areConnections_280 : decode cL_areConnections 280 = .ok (.iload 7, 2) := by decide +kernel
theorem dL_areConnections_282 : decode cL_areConnections 282 = .ok (.iadd, 1) := by decide +kernel
theorem dL_areConnections_283 : decode cL_areConnections 283 = .ok (.iaload, 1) := by decide +kernel
theorem dL_areConnections_284 : decode cL_areConnections 284 = .ok (.aload_n 1, 1) := by decide +kernel
theorem dL_areConnections_285 : decode cL_areConnections 285 = .ok (.bipush 16, 2) := by decide +kernel
theorem dL_areConnections_287 : decode cL_areConnections 287 = .ok (.iload 5, 2) := by decide +kernel
theorem dL_areConnections_289 : decode cL_areConnections 289 = .ok (.iadd, 1) := by decide +kernel
theorem dL_areConnections_290 : decode cL_areConnections 290 = .ok (.iaload, 1) := by decide +kernel
theorem dL_areConnections_291 : decode cL_areConnections 291 = .ok (.invokevirtual 39, 3) := by decide +kernel
theorem dL_areConnections_294 : decode cL_areConnections 294 = .ok (.iconst (-1), 1) := by decide +kernel
theorem dL_areConnections_295 : decode cL_areConnections 295 = .ok (.if_icmp .ne 11, 3) := by decide +kernel
theorem dL_areConnections_298 : decode cL_areConnections 298 = .ok (.iload 9, 2) := by decide +kernel
theorem dL_areConnections_300 : decode cL_areConnections 300 = .ok (.bipush 8, 2) := by decide +kernel
theorem dL_areConnections_302 : decode cL_areConnections 302 = .ok (.iand, 1) := by decide +kernel
theorem dL_areConnections_303 : decode cL_areConnections 303 = .ok (.ifCond .ne 7, 3) := by decide +kernel
theorem dL_areConnections_306 : decode cL_areConnections 306 = .ok (.iconst 1, 1) := by decide +kernel
theorem dL_areConnections_307 : decode cL_areConnections 307 = .ok (.goto 4, 3) := by decide +kernel
theorem dL_areConnections_310 : decode cL_areConnections 310 = .ok (.iconst 0, 1) := by decide +kernel
theorem dL_areConnections_311 : decode cL_areConnections 311 = .ok (.istore 4, 2) := by decide +kernel
theorem dL_areConnections_313 : decode cL_areConnections 313 = .ok (.iinc 7 1, 3) := by decide +kernel
theorem dL_areConnections_316 : decode cL_areConnections 316 = .ok (.goto (-289), 3) := by decide +kernel
theorem dL_areConnections_319 : decode cL_areConnections 319 = .ok (.iload 4, 2) := by decide +kernel
theorem dL_areConnections_321 : decode cL_areConnections 321 = .ok (.ifCond .eq 18, 3) := by decide +kernel
theorem dL_areConnections_324 : decode cL_areConnections 324 = .ok (.aload_n 0, 1) := by decide +kernel
theorem dL_areConnections_325 : decode cL_areConnections 325 = .ok (.iload 5, 2) := by decide +kernel
theorem dL_areConnections_327 : decode cL_areConnections 327 = .ok (.invokevirtual 55, 3) := by decide +kernel
theorem dL_areConnections_330 : decode cL_areConnections 330 = .ok (.iload 6, 2) := by decide +kernel
theorem dL_areConnections_332 : decode cL_areConnections 332 = .ok (.if_icmp .ne 7, 3) := by decide +kernel
theorem dL_areConnections_335 : decode cL_areConnections 335 = .ok (.iconst 1, 1) := by decide +kernel
theorem dL_areConnections_336 : decode cL_areConnections 336 = .ok (.goto 4, 3) := by decide +kernel
theorem dL_areConnections_339 : decode cL_areConnections 339 = .ok (.iconst 0, 1) := by decide +kernel
theorem dL_areConnections_340 : decode cL_areConnections 340 = .ok (.istore 4, 2) := by decide +kernel
theorem dL_areConnections_342 : decode cL_areConnections 342 = .ok (.iinc 5 1, 3) := by decide +kernel
theorem dL_areConnections_345 : decode cL_areConnections 345 = .ok (.goto (-337), 3) := by decide +kernel
theorem dL_areConnections_348 : decode cL_areConnections 348 = .ok (.iload 4, 2) := by decide +kernel
theorem dL_areConnections_350 : decode cL_areConnections 350 = .ok (.ifCond .eq 16, 3) := by decide +kernel
theorem dL_areConnections_353 : decode cL_areConnections 353 = .ok (.aload_n 0, 1) := by decide +kernel
theorem dL_areConnections_354 : decode cL_areConnections 354 = .ok (.iload_n 2, 1) := by decide +kernel
theorem dL_areConnections_355 : decode cL_areConnections 355 = .ok (.invokevirtual 16, 3) := by decide +kernel
theorem dL_areConnections_358 : decode cL_areConnections 358 = .ok (.iload_n 3, 1) := by decide +kernel
theorem dL_areConnections_359 : decode cL_areConnections 359 = .ok (.if_icmp .ne 7, 3) := by decide +kernel
theorem dL_areConnections_362 : decode cL_areConnections 362 = .ok (.iconst 1, 1) := by decide +kernel
theorem dL_areConnections_363 : decode cL_areConnections 363 = .ok (.goto 4, 3) := by decide +kernel
theorem dL_areConnections_366 : decode cL_areConnections 366 = .ok (.iconst 0, 1) := by decide +kernel
theorem dL_areConnections_367 : decode cL_areConnections 367 = .ok (.ireturn, 1) := by decide +kernel
set_option maxRecDepth 20000 in
theorem ggL_areConnections_X7_ports : GoodIn wsL_areConnections wsX7_ports := goodIn_ca (goodIn_ca (goodIn_r _ [6, 7, 8, 9, 5, 10, 11, 12, 13, 14, 15, 16, 17, 18, 19, 20, 21, 22, 23, 24, 25, 26, 27, 28, 29, 30, 31, 32, 33, 34, 35, 36, 37, 38, 39, 40, 41, 42, 43, 44, 45, 46, 47, 48, 49, 50, 51, 52, 53, 54, 55, 56, 57, 58, 59, 60, 61, 62, 63, 64, 65, 66, 67, 68, 69, 70, 71, 72, 73, 74, 75, 76, 77, 78, 79, 80, 81, 82, 83, 84, 85, 86, 87, 88, 89, 90, 91, 92, 93, 94, 95, 96, 97, 98, 99, 100, 101, 102, 103, 104, 105, 106, 107, 108, 109, 110, 111, 112, 113, 114, 115, 116, 117, 118, 119, 120, 121, 122, 123, 124, 125, 126, 127, 128, 129, 130, 131, 132, 133, 134, 135, 136, 137, 138, 168, 169, 170, 171, 172, 173, 174, 175, 176, 177, 178, 179, 180, 181, 182, 183, 184, 185, 186, 187, 188, 189, 190, 191, 192, 193] (by decide +kernel) (by decide +kernel)) (goodIn_sub (fun _ h => List.mem_cons_of_mem _ (List.mem_append_left _ (List.mem_append_right _ h))) (by decide +kernel))) (goodIn_sub (fun _ h => List.mem_cons_of_mem _ (List.mem_append_right _ h)) (by decide +kernel))
set_option maxRecDepth 20000 in
theorem gL_areConnections_X7_ports : GoodIn wsL_areConnections (wsV RL 58 RX7 yX7_ports wsX7_ports) := goodIn_app (goodIn_of _ (by decide +kernel)) ggL_areConnections_X7_ports
set_option maxRecDepth 20000 in
theorem ggL_areConnections_X7_blocks : GoodIn wsL_areConnections wsX7_blocks := goodIn_ca (goodIn_ca (goodIn_r _ [142, 7, 8, 9, 5, 10, 11, 12, 13, 14, 15, 16, 17, 18, 19, 20, 21, 22, 23, 24, 25, 26, 27, 28, 29, 30, 31, 32, 33, 34, 35, 36, 37, 38, 39, 40, 41, 42, 43, 44, 45, 143, 144, 145, 51, 52, 53, 54, 55, 50, 56, 57, 58, 59, 60, 61, 62, 63, 64, 65, 66, 67, 68, 69, 70, 71, 72, 73, 74, 75, 76, 77, 78, 79, 80, 81, 82, 83, 84, 85, 86, 87, 88, 89, 90, 91, 92, 93, 94, 95, 96, 97, 98, 99, 100, 101, 102, 103, 104, 105, 106, 107, 108, 109, 110, 111, 112, 113, 114, 115, 116, 117, 118, 119, 120, 121, 122, 123, 124, 125, 126, 127, 128, 129, 130, 131, 132, 133, 134, 135, 136, 137, 138, 168, 169, 170, 171, 172, 173, 174, 175, 176, 177, 178, 179, 180, 181, 182, 183, 184, 185, 186, 187, 188, 189, 190, 191, 192, 193] (by decide +kernel) (by decide +kernel)) (goodIn_sub (fun _ h => List.mem_cons_of_mem _ (List.mem_append_left _ (List.mem_append_right _ h))) (by decide +kernel))) (goodIn_sub (fun _ h => List.mem_cons_of_mem _ (List.mem_append_right _ h)) (by decide +kernel))
set_option maxRecDepth 20000 in
theorem gL_areConnections_X7_blocks : GoodIn wsL_areConnections (wsV RL 61 RX7 yX7_blocks wsX7_blocks) := goodIn_app (goodIn_of _ (by decide +kernel)) ggL_areConnections_X7_blocks
set_option maxRecDepth 20000 in
theorem ggL_areConnections_X7_blockedBy : GoodIn wsL_areConnections wsX7_blockedBy := goodIn_ca (goodIn_ca (goodIn_r _ [149, 7, 8, 9, 5, 10, 11, 12, 13, 14, 15, 16, 17, 18, 19, 20, 21, 22, 23, 24, 25, 26, 27, 28, 29, 30, 31, 32, 33, 34, 35, 36, 37, 38, 39, 40, 41, 42, 43, 44, 45, 143, 144, 145, 51, 52, 53, 54, 55, 50, 56, 57, 58, 59, 60, 61, 62, 63, 64, 65, 66, 67, 68, 69, 70, 71, 72, 73, 74, 75, 76, 77, 78, 79, 80, 81, 82, 83, 84, 85, 86, 87, 88, 89, 90, 91, 92, 93, 94, 95, 96, 97, 98, 99, 100, 101, 102, 103, 104, 105, 106, 107, 108, 109, 110, 111, 112, 113, 114, 115, 116, 117, 118, 119, 120, 121, 122, 123, 124, 125, 126, 127, 128, 129, 130, 131, 132, 133, 134, 135, 136, 137, 138, 168, 169, 170, 171, 172, 173, 174, 175, 176, 177, 178, 179, 180, 181, 182, 183, 184, 185, 186, 187, 188, 189, 190, 191, 192, 193] (by decide +kernel) (by decide +kernel)) (goodIn_sub (fun _ h => List.mem_cons_of_mem _ (List.mem_append_left _ (List.mem_append_right _ h))) (by decide +kernel))) (goodIn_sub (fun _ h => List.mem_cons_of_mem _ (List.mem_append_right _ h)) (by decide +kernel))
set_option maxRecDepth 20000 in
theorem gL_areConnections_X7_blockedBy : GoodIn wsL_areConnections (wsV RL 84 RX7 yX7_blockedBy wsX7_blockedBy) := goodIn_app (goodIn_of _ (by decide +kernel)) ggL_areConnections_X7_blockedBy
set_option maxRecDepth 20000 in
theorem ggL_areConnections_X7_routeFor : GoodIn wsL_areConnections wsX7_routeFor := goodIn_ca (goodIn_ca (goodIn_r _ [153, 44, 45, 154, 155, 156, 5, 157, 158, 159, 13, 14, 15, 16, 17, 18, 19, 20, 21, 22, 23, 24, 25, 26, 27, 28, 29, 30, 31, 32, 33, 34, 35, 36, 37, 38, 39, 40, 114, 115, 116, 96, 117, 118, 119, 120, 121, 122, 123, 124, 87, 88, 89, 90, 91, 92, 104, 105, 168, 169, 170, 171, 172, 173, 174, 175, 186, 187, 188, 189, 184, 185, 190, 191] (by decide +kernel) (by decide +kernel)) (goodIn_sub (fun _ h => List.mem_cons_of_mem _ (List.mem_append_right _ h)) (by decide +kernel))) (goodIn_sub (fun _ h => List.mem_cons_of_mem _ (List.mem_append_left _ (List.mem_append_right _ h))) (by decide +kernel))
set_option maxRecDepth 20000 in
theorem gL_areConnections_X7_routeFor : GoodIn wsL_areConnections (wsV RL 39 RX7 yX7_routeFor wsX7_routeFor) := goodIn_app (goodIn_of _ (by decide +kernel)) ggL_areConnections_X7_routeFor
set_option maxRecDepth 20000 in
theorem ggL_areConnections_X7_reachedFrom : GoodIn wsL_areConnections wsX7_reachedFrom := goodIn_ca (goodIn_r _ [163, 11, 12, 7, 8, 9, 5, 10, 13, 14, 15, 16, 17, 18, 19, 20, 21, 22, 23, 24, 25, 26, 27, 28, 29, 30, 31, 32, 33, 34, 35, 36, 37, 38, 39, 40, 46, 47, 48, 49, 50, 51, 52, 53, 54, 55, 56, 57, 58, 59, 60, 61, 62, 63, 64, 65, 66, 67, 68, 69, 70, 71, 72, 73, 74, 75, 76, 77, 78, 79, 80, 81, 82, 83, 84, 85, 86, 87, 88, 89, 90, 91, 92, 93, 94, 95, 96, 97, 98, 99, 100, 101, 102, 103, 104, 105, 106, 107, 108, 109, 110, 111, 112, 113, 114, 115, 116, 117, 118, 119, 120, 121, 122, 123, 124, 125, 126, 127, 128, 129, 130, 131, 132, 133, 134, 135, 136, 137, 138, 168, 169, 170, 171, 172, 173, 174, 175, 176, 177, 178, 179, 180, 181, 182, 183, 184, 185, 186, 187, 188, 189, 190, 191, 192, 193] (by decide +kernel) (by decide +kernel)) (goodIn_sub (fun _ h => List.mem_cons_of_mem _ (List.mem_append_left _ (List.mem_append_right _ h))) (by decide +kernel))
set_option maxRecDepth 20000 in
theorem gL_areConnections_X7_reachedFrom : GoodIn wsL_areConnections (wsV RL 55 RX7 yX7_reachedFrom wsX7_reachedFrom) := goodIn_app (goodIn_of _ (by decide +kernel)) ggL_areConnections_X7_reachedFrom
set_option maxRecDepth 20000 in
theorem ggL_areConnections_X7_pairs : GoodIn wsL_areConnections wsX7_pairs := goodIn_ca (goodIn_r _ [167, 11, 12, 143, 144, 5, 145, 44, 45, 13, 14, 15, 16, 17, 18, 24, 25, 26, 27, 28, 29, 30, 31, 32, 33, 34, 35, 36, 37, 38, 39, 40, 46, 47, 48, 49, 50, 51, 52, 53, 54, 55, 56, 57, 58, 59, 60, 61, 62, 63, 64, 65, 66, 67, 68, 69, 70, 71, 72, 73, 74, 75, 76, 77, 78, 79, 80, 81, 82, 83, 84, 85, 86, 87, 88, 89, 90, 91, 92, 93, 94, 95, 96, 97, 98, 99, 100, 101, 102, 103, 104, 105, 106, 107, 108, 109, 110, 111, 112, 113, 114, 115, 116, 117, 118, 119, 120, 121, 122, 123, 124, 125, 126, 127, 128, 129, 130, 131, 132, 133, 134, 135, 136, 137, 138, 168, 169, 170, 171, 172, 173, 174, 175, 176, 177, 178, 179, 180, 181, 182, 183, 184, 185, 186, 187, 188, 189, 190, 191, 192, 193] (by decide +kernel) (by decide +kernel)) (goodIn_sub (fun _ h => List.mem_cons_of_mem _ (List.mem_append_right _ h)) (by decide +kernel))
set_option maxRecDepth 20000 in
theorem gL_areConnections_X7_pairs : GoodIn wsL_areConnections (wsV RL 16 RX7 yX7_pairs wsX7_pairs) := goodIn_app (goodIn_of _ (by decide +kernel)) ggL_areConnections_X7_pairs
