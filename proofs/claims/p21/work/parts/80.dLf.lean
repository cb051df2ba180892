theorem dL_step_0 : decode cL_step 0 = .ok (.iload_n 2, 1) := by decide +kernel
theorem dL_step_1 : decode cL_step 1 = .ok (.bipush 12, 2) := by decide +kernel
theorem dL_step_3 : decode cL_step 3 = .ok (.irem, 1) := by decide +kernel
theorem dL_step_4 : decode cL_step 4 = .ok (.tableswitch 313 0 10 #[60, 60, 75, 126, 126, 126, 135, 135, 224, 233, 242], 60) := by decide +kernel
theorem dL_step_64 : decode cL_step 64 = .ok (.aload_n 0, 1) := by decide +kernel
theorem dL_step_65 : decode cL_step 65 = .ok (.aload_n 1, 1) := by decide +kernel
theorem dL_step_66 : decode cL_step 66 = .ok (.iload_n 3, 1) := by decide +kernel
theorem dL_step_67 : decode cL_step 67 = .ok (.bipush 6, 2) := by decide +kernel
theorem dL_step_69 : decode cL_step 69 = .ok (.irem, 1) := by decide +kernel
theorem dL_step_70 : decode cL_step 70 = .ok (.iload 4, 2) := by decide +kernel
theorem dL_step_72 : decode cL_step 72 = .ok (.bipush 64, 2) := by decide +kernel
theorem dL_step_74 : decode cL_step 74 = .ok (.irem, 1) := by decide +kernel
theorem dL_step_75 : decode cL_step 75 = .ok (.invokestatic 10, 3) := by decide +kernel
theorem dL_step_78 : decode cL_step 78 = .ok (.ireturn, 1) := by decide +kernel
theorem dL_step_79 : decode cL_step 79 = .ok (.aload_n 1, 1) := by decide +kernel
theorem dL_step_80 : decode cL_step 80 = .ok (.iconst 1, 1) := by decide +kernel
theorem dL_step_81 : decode cL_step 81 = .ok (.iaload, 1) := by decide +kernel
theorem dL_step_82 : decode cL_step 82 = .ok (.bipush 6, 2) := by decide +kernel
theorem dL_step_84 : decode cL_step 84 = .ok (.if_icmp .ne 21, 3) := by decide +kernel
theorem dL_step_87 : decode cL_step 87 = .ok (.aload_n 0, 1) := by decide +kernel
theorem dL_step_88 : decode cL_step 88 = .ok (.iload 4, 2) := by decide +kernel
theorem dL_step_90 : decode cL_step 90 = .ok (.bipush 16, 2) := by decide +kernel
theorem dL_step_92 : decode cL_step 92 = .ok (.irem, 1) := by decide +kernel
theorem dL_step_93 : decode cL_step 93 = .ok (.invokevirtual 16, 3) := by decide +kernel
theorem dL_step_96 : decode cL_step 96 = .ok (.ifCond .lt 7, 3) := by decide +kernel
theorem dL_step_99 : decode cL_step 99 = .ok (.iconst 1, 1) := by decide +kernel
theorem dL_step_100 : decode cL_step 100 = .ok (.goto 4, 3) := by decide +kernel
theorem dL_step_103 : decode cL_step 103 = .ok (.iconst 0, 1) := by decide +kernel
theorem dL_step_104 : decode cL_step 104 = .ok (.ireturn, 1) := by decide +kernel
theorem dL_step_105 : decode cL_step 105 = .ok (.aload_n 1, 1) := by decide +kernel
theorem dL_step_106 : decode cL_step 106 = .ok (.iconst 1, 1) := by decide +kernel
theorem dL_step_107 : decode cL_step 107 = .ok (.dup2, 1) := by decide +kernel
theorem dL_step_108 : decode cL_step 108 = .ok (.iaload, 1) := by decide +kernel
theorem dL_step_109 : decode cL_step 109 = .ok (.iconst 1, 1) := by decide +kernel
theorem dL_step_110 : decode cL_step 110 = .ok (.iadd, 1) := by decide +kernel
theorem dL_step_111 : decode cL_step 111 = .ok (.iastore, 1) := by decide +kernel
theorem dL_step_112 : decode cL_step 112 = .ok (.aload_n 0, 1) := by decide +kernel
theorem dL_step_113 : decode cL_step 113 = .ok (.invokevirtual 22, 3) := by decide +kernel
theorem dL_step_116 : decode cL_step 116 = .ok (.aload_n 1, 1) := by decide +kernel
theorem dL_step_117 : decode cL_step 117 = .ok (.iconst 1, 1) := by decide +kernel
theorem dL_step_118 : decode cL_step 118 = .ok (.iaload, 1) := by decide +kernel
theorem dL_step_119 : decode cL_step 119 = .ok (.iconst 1, 1) := by decide +kernel
theorem dL_step_120 : decode cL_step 120 = .ok (.isub, 1) := by decide +kernel
theorem dL_step_121 : decode cL_step 121 = .ok (.if_icmp .ne 7, 3) := by decide +kernel
theorem dL_step_124 : decode cL_step 124 = .ok (.iconst 1, 1) := by decide +kernel
theorem dL_step_125 : decode cL_step 125 = .ok (.goto 4, 3) := by decide +kernel
theorem dL_step_128 : decode cL_step 128 = .ok (.iconst 0, 1) := by decide +kernel
theorem dL_step_129 : decode cL_step 129 = .ok (.ireturn, 1) := by decide +kernel
theorem dL_step_130 : decode cL_step 130 = .ok (.aload_n 0, 1) := by decide +kernel
theorem dL_step_131 : decode cL_step 131 = .ok (.aload_n 1, 1) := by decide +kernel
theorem dL_step_132 : decode cL_step 132 = .ok (.iload_n 3, 1) := by decide +kernel
theorem dL_step_133 : decode cL_step 133 = .ok (.iload 4, 2) := by decide +kernel
theorem dL_step_135 : decode cL_step 135 = .ok (.invokestatic 26, 3) := by decide +kernel
theorem dL_step_138 : decode cL_step 138 = .ok (.ireturn, 1) := by decide +kernel
theorem dL_step_139 : decode cL_step 139 = .ok (.aload_n 1, 1) := by decide +kernel
theorem dL_step_140 : decode cL_step 140 = .ok (.iconst 0, 1) := by decide +kernel
theorem dL_step_141 : decode cL_step 141 = .ok (.iaload, 1) := by decide +kernel
theorem dL_step_142 : decode cL_step 142 = .ok (.ifCond .eq 9, 3) := by decide +kernel
theorem dL_step_145 : decode cL_step 145 = .ok (.aload_n 1, 1) := by decide +kernel
theorem dL_step_146 : decode cL_step 146 = .ok (.iconst 1, 1) := by decide +kernel
theorem dL_step_147 : decode cL_step 147 = .ok (.iaload, 1) := by decide +kernel
theorem dL_step_148 : decode cL_step 148 = .ok (.ifCond .ne 20, 3) := by decide +kernel
theorem dL_step_151 : decode cL_step 151 = .ok (.aload_n 0, 1) := by decide +kernel
theorem dL_step_152 : decode cL_step 152 = .ok (.iload_n 3, 1) := by decide +kernel
theorem dL_step_153 : decode cL_step 153 = .ok (.bipush 16, 2) := by decide +kernel
theorem dL_step_155 : decode cL_step 155 = .ok (.irem, 1) := by decide +kernel
theorem dL_step_156 : decode cL_step 156 = .ok (.invokevirtual 16, 3) := by decide +kernel
theorem dL_step_159 : decode cL_step 159 = .ok (.ifCond .ne 7, 3) := by decide +kernel
theorem dL_step_162 : decode cL_step 162 = .ok (.iconst 1, 1) := by decide +kernel
theorem dL_step_163 : decode cL_step 163 = .ok (.goto 4, 3) := by decide +kernel
theorem dL_step_166 : decode cL_step 166 = .ok (.iconst 0, 1) := by decide +kernel
theorem dL_step_167 : decode cL_step 167 = .ok (.ireturn, 1) := by decide +kernel
theorem dL_step_168 : decode cL_step 168 = .ok (.iload 4, 2) := by decide +kernel
theorem dL_step_170 : decode cL_step 170 = .ok (.iconst 5, 1) := by decide +kernel
theorem dL_step_171 : decode cL_step 171 = .ok (.irem, 1) := by decide +kernel
theorem dL_step_172 : decode cL_step 172 = .ok (.ifCond .le 7, 3) := by decide +kernel
theorem dL_step_175 : decode cL_step 175 = .ok (.iconst 1, 1) := by decide +kernel
theorem dL_step_176 : decode cL_step 176 = .ok (.goto 4, 3) := by decide +kernel
theorem dL_step_179 : decode cL_step 179 = .ok (.iconst 0, 1) := by decide +kernel
theorem dL_step_180 : decode cL_step 180 = .ok (.istore 5, 2) := by decide +kernel
theorem dL_step_182 : decode cL_step 182 = .ok (.aload_n 0, 1) := by decide +kernel
theorem dL_step_183 : decode cL_step 183 = .ok (.iload_n 3, 1) := by decide +kernel
theorem dL_step_184 : decode cL_step 184 = .ok (.aload_n 1, 1) := by decide +kernel
theorem dL_step_185 : decode cL_step 185 = .ok (.iconst 0, 1) := by decide +kernel
theorem dL_step_186 : decode cL_step 186 = .ok (.iaload, 1) := by decide +kernel
theorem dL_step_187 : decode cL_step 187 = .ok (.irem, 1) := by decide +kernel
theorem dL_step_188 : decode cL_step 188 = .ok (.iload 4, 2) := by decide +kernel
theorem dL_step_190 : decode cL_step 190 = .ok (.aload_n 1, 1) := by decide +kernel
theorem dL_step_191 : decode cL_step 191 = .ok (.iconst 1, 1) := by decide +kernel
theorem dL_step_192 : decode cL_step 192 = .ok (.iaload, 1) := by decide +kernel
theorem dL_step_193 : decode cL_step 193 = .ok (.irem, 1) := by decide +kernel
theorem dL_step_194 : decode cL_step 194 = .ok (.iload 5, 2) := by decide +kernel
theorem dL_step_196 : decode cL_step 196 = .ok (.invokevirtual 29, 3) := by decide +kernel
theorem dL_step_199 : decode cL_step 199 = .ok (.pop, 1) := by decide +kernel
theorem dL_step_200 : decode cL_step 200 = .ok (.aload_n 0, 1) := by decide +kernel
theorem dL_step_201 : decode cL_step 201 = .ok (.iload_n 3, 1) := by decide +kernel
theorem dL_step_202 : decode cL_step 202 = .ok (.aload_n 1, 1) := by decide +kernel
theorem dL_step_203 : decode cL_step 203 = .ok (.iconst 0, 1) := by decide +kernel
theorem dL_step_204 : decode cL_step 204 = .ok (.iaload, 1) := by decide +kernel
theorem dL_step_205 : decode cL_step 205 = .ok (.irem, 1) := by decide +kernel
theorem dL_step_206 : decode cL_step 206 = .ok (.iload 4, 2) := by decide +kernel
theorem dL_step_208 : decode cL_step 208 = .ok (.aload_n 1, 1) := by decide +kernel
theorem dL_step_209 : decode cL_step 209 = .ok (.iconst 1, 1) := by decide +kernel
theorem dL_step_210 : decode cL_step 210 = .ok (.iaload, 1) := by decide +kernel
theorem dL_step_211 : decode cL_step 211 = .ok (.irem, 1) := by decide +kernel
theorem dL_step_212 : decode cL_step 212 = .ok (.iload 5, 2) := by decide +kernel
theorem dL_step_214 : decode cL_step 214 = .ok (.invokevirtual 29, 3) := by decide +kernel
theorem dL_step_217 : decode cL_step 217 = .ok (.iload 5, 2) := by decide +kernel
theorem dL_step_219 : decode cL_step 219 = .ok (.if_icmp .ne 7, 3) := by decide +kernel
theorem dL_step_222 : decode cL_step 222 = .ok (.iconst 1, 1) := by decide +kernel
theorem dL_step_223 : decode cL_step 223 = .ok (.goto 4, 3) := by decide +kernel
theorem dL_step_226 : decode cL_step 226 = .ok (.iconst 0, 1) := by decide +kernel
theorem dL_step_227 : decode cL_step 227 = .ok (.ireturn, 1) := by decide +kernel
theorem dL_step_228 : decode cL_step 228 = .ok (.aload_n 0, 1) := by decide +kernel
theorem dL_step_229 : decode cL_step 229 = .ok (.aload_n 1, 1) := by decide +kernel
theorem dL_step_230 : decode cL_step 230 = .ok (.iload_n 3, 1) := by decide +kernel
theorem dL_step_231 : decode cL_step 231 = .ok (.iload 4, 2) := by decide +kernel
theorem dL_step_233 : decode cL_step 233 = .ok (.invokestatic 33, 3) := by decide +kernel
theorem dL_step_236 : decode cL_step 236 = .ok (.ireturn, 1) := by decide +kernel
theorem dL_step_237 : decode cL_step 237 = .ok (.aload_n 0, 1) := by decide +kernel
theorem dL_step_238 : decode cL_step 238 = .ok (.aload_n 1, 1) := by decide +kernel
theorem dL_step_239 : decode cL_step 239 = .ok (.iload_n 3, 1) := by decide +kernel
theorem dL_step_240 : decode cL_step 240 = .ok (.iload 4, 2) := by decide +kernel
theorem dL_step_242 : decode cL_step 242 = .ok (.invokestatic 36, 3) := by decide +kernel
theorem dL_step_245 : decode cL_step 245 = .ok (.ireturn, 1) := by decide +kernel
theorem dL_step_246 : decode cL_step 246 = .ok (.aload_n 1, 1) := by decide +kernel
theorem dL_step_247 : decode cL_step 247 = .ok (.iconst 2, 1) := by decide +kernel
theorem dL_step_248 : decode cL_step 248 = .ok (.iaload, 1) := by decide +kernel
theorem dL_step_249 : decode cL_step 249 = .ok (.bipush 6, 2) := by decide +kernel
theorem dL_step_251 : decode cL_step 251 = .ok (.if_icmp .ne 26, 3) := by decide +kernel
theorem dL_step_254 : decode cL_step 254 = .ok (.aload_n 0, 1) := by decide +kernel
theorem dL_step_255 : decode cL_step 255 = .ok (.iload_n 3, 1) := by decide +kernel
theorem dL_step_256 : decode cL_step 256 = .ok (.bipush 6, 2) := by decide +kernel
theorem dL_step_258 : decode cL_step 258 = .ok (.irem, 1) := by decide +kernel
theorem dL_step_259 : decode cL_step 259 = .ok (.sipush 1023, 3) := by decide +kernel
theorem dL_step_262 : decode cL_step 262 = .ok (.invokevirtual 39, 3) := by decide +kernel
theorem dL_step_265 : decode cL_step 265 = .ok (.aload_n 1, 1) := by decide +kernel
theorem dL_step_266 : decode cL_step 266 = .ok (.iconst 2, 1) := by decide +kernel
theorem dL_step_267 : decode cL_step 267 = .ok (.iaload, 1) := by decide +kernel
theorem dL_step_268 : decode cL_step 268 = .ok (.if_icmp .ge 7, 3) := by decide +kernel
theorem dL_step_271 : decode cL_step 271 = .ok (.iconst 1, 1) := by decide +kernel
theorem dL_step_272 : decode cL_step 272 = .ok (.goto 4, 3) := by decide +kernel
theorem dL_step_275 : decode cL_step 275 = .ok (.iconst 0, 1) := by decide +kernel
theorem dL_step_276 : decode cL_step 276 = .ok (.ireturn, 1) := by decide +kernel
theorem dL_step_277 : decode cL_step 277 = .ok (.aload_n 1, 1) := by decide +kernel
theorem dL_step_278 : decode cL_step 278 = .ok (.iconst 2, 1) := by decide +kernel
theorem dL_step_279 : decode cL_step 279 = .ok (.dup2, 1) := by decide +kernel
theorem dL_step_280 : decode cL_step 280 = .ok (.iaload, 1) := by decide +kernel
theorem dL_step_281 : decode cL_step 281 = .ok (.iconst 1, 1) := by decide +kernel
theorem dL_step_282 : decode cL_step 282 = .ok (.iadd, 1) := by decide +kernel
theorem dL_step_283 : decode cL_step 283 = .ok (.iastore, 1) := by decide +kernel
theorem dL_step_284 : decode cL_step 284 = .ok (.aload_n 0, 1) := by decide +kernel
theorem dL_step_285 : decode cL_step 285 = .ok (.iload_n 3, 1) := by decide +kernel
theorem dL_step_286 : decode cL_step 286 = .ok (.iconst 3, 1) := by decide +kernel
theorem dL_step_287 : decode cL_step 287 = .ok (.irem, 1) := by decide +kernel
theorem dL_step_288 : decode cL_step 288 = .ok (.iload_n 3, 1) := by decide +kernel
theorem dL_step_289 : decode cL_step 289 = .ok (.iconst 3, 1) := by decide +kernel
theorem dL_step_290 : decode cL_step 290 = .ok (.irem, 1) := by decide +kernel
theorem dL_step_291 : decode cL_step 291 = .ok (.iconst 1, 1) := by decide +kernel
theorem dL_step_292 : decode cL_step 292 = .ok (.iadd, 1) := by decide +kernel
theorem dL_step_293 : decode cL_step 293 = .ok (.iload 4, 2) := by decide +kernel
theorem dL_step_295 : decode cL_step 295 = .ok (.iconst 2, 1) := by decide +kernel
theorem dL_step_296 : decode cL_step 296 = .ok (.irem, 1) := by decide +kernel
theorem dL_step_297 : decode cL_step 297 = .ok (.iadd, 1) := by decide +kernel
theorem dL_step_298 : decode cL_step 298 = .ok (.iconst 3, 1) := by decide +kernel
theorem dL_step_299 : decode cL_step 299 = .ok (.irem, 1) := by decide +kernel
theorem dL_step_300 : decode cL_step 300 = .ok (.invokevirtual 43, 3) := by decide +kernel
theorem dL_step_303 : decode cL_step 303 = .ok (.aload_n 1, 1) := by decide +kernel
theorem dL_step_304 : decode cL_step 304 = .ok (.iconst 2, 1) := by decide +kernel
theorem dL_step_305 : decode cL_step 305 = .ok (.iaload, 1) := by decide +kernel
theorem dL_step_306 : decode cL_step 306 = .ok (.iconst 1, 1) := by decide +kernel
theorem dL_step_307 : decode cL_step 307 = .ok (.isub, 1) := by decide +kernel
theorem dL_step_308 : decode cL_step 308 = .ok (.if_icmp .ne 7, 3) := by decide +kernel
theorem dL_step_311 : decode cL_step 311 = .ok (.iconst 1, 1) := by decide +kernel
theorem dL_step_312 : decode cL_step 312 = .ok (.goto 4, 3) := by decide +kernel
theorem dL_step_315 : decode cL_step 315 = .ok (.iconst 0, 1) := by decide +kernel
theorem dL_step_316 : decode cL_step 316 = .ok (.ireturn, 1) := by decide +kernel
theorem dL_step_317 : decode cL_step 317 = .ok (.aload_n 1, 1) := by decide +kernel
theorem dL_step_318 : decode cL_step 318 = .ok (.iconst 1, 1) := by decide +kernel
theorem dL_step_319 : decode cL_step 319 = .ok (.iaload, 1) := by decide +kernel
theorem dL_step_320 : decode cL_step 320 = .ok (.ifCond .ne 7, 3) := by decide +kernel
theorem dL_step_323 : decode cL_step 323 = .ok (.iconst 0, 1) := by decide +kernel
theorem dL_step_324 : decode cL_step 324 = .ok (.goto 8, 3) := by decide +kernel
theorem dL_step_327 : decode cL_step 327 = .ok (.iload_n 3, 1) := by decide +kernel
theorem dL_step_328 : decode cL_step 328 = .ok (.aload_n 1, 1) := by decide +kernel
theorem dL_step_329 : decode cL_step 329 = .ok (.iconst 1, 1) := by decide +kernel
theorem dL_step_330 : decode cL_step 330 = .ok (.iaload, 1) := by decide +kernel
theorem dL_step_331 : decode cL_step 331 = .ok (.irem, 1) := by decide +kernel
theorem dL_step_332 : decode cL_step 332 = .ok (.istore 6, 2) := by decide +kernel
theorem dL_step_334 : decode cL_step 334 = .ok (.aload_n 1, 1) := by decide +kernel
theorem dL_step_335 : decode cL_step 335 = .ok (.bipush 28, 2) := by decide +kernel
theorem dL_step_337 : decode cL_step 337 = .ok (.iload 6, 2) := by decide +kernel
theorem dL_step_339 : decode cL_step 339 = .ok (.iadd, 1) := by decide +kernel
theorem dL_step_340 : decode cL_step 340 = .ok (.iaload, 1) := by decide +kernel
theorem dL_step_341 : decode cL_step 341 = .ok (.istore 7, 2) := by decide +kernel
theorem dL_step_343 : decode cL_step 343 = .ok (.aload_n 1, 1) := by decide +kernel
theorem dL_step_344 : decode cL_step 344 = .ok (.iconst 1, 1) := by decide +kernel
theorem dL_step_345 : decode cL_step 345 = .ok (.iaload, 1) := by decide +kernel
theorem dL_step_346 : decode cL_step 346 = .ok (.ifCond .eq 10, 3) := by decide +kernel
theorem dL_step_349 : decode cL_step 349 = .ok (.iload 4, 2) := by decide +kernel
theorem dL_step_351 : decode cL_step 351 = .ok (.iconst 3, 1) := by decide +kernel
theorem dL_step_352 : decode cL_step 352 = .ok (.irem, 1) := by decide +kernel
theorem dL_step_353 : decode cL_step 353 = .ok (.ifCond .le 16, 3) := by decide +kernel
theorem dL_step_356 : decode cL_step 356 = .ok (.iload 7, 2) := by decide +kernel
theorem dL_step_358 : decode cL_step 358 = .ok (.bipush 10, 2) := by decide +kernel
theorem dL_step_360 : decode cL_step 360 = .ok (.if_icmp .gt 7, 3) := by decide +kernel
theorem dL_step_363 : decode cL_step 363 = .ok (.iconst 1, 1) := by decide +kernel
theorem dL_step_364 : decode cL_step 364 = .ok (.goto 4, 3) := by decide +kernel
theorem dL_step_367 : decode cL_step 367 = .ok (.iconst 0, 1) := by decide +kernel
theorem dL_step_368 : decode cL_step 368 = .ok (.ireturn, 1) := by decide +kernel
theorem dL_step_369 : decode cL_step 369 = .ok (.aload_n 1, 1) := by decide +kernel
theorem dL_step_370 : decode cL_step 370 = .ok (.bipush 28, 2) := by decide +kernel
theorem dL_step_372 : decode cL_step 372 = .ok (.iload 6, 2) := by decide +kernel
theorem dL_step_374 : decode cL_step 374 = .ok (.iadd, 1) := by decide +kernel
theorem dL_step_375 : decode cL_step 375 = .ok (.iconst 0, 1) := by decide +kernel
theorem dL_step_376 : decode cL_step 376 = .ok (.iastore, 1) := by decide +kernel
theorem dL_step_377 : decode cL_step 377 = .ok (.aload_n 0, 1) := by decide +kernel
theorem dL_step_378 : decode cL_step 378 = .ok (.iload 6, 2) := by decide +kernel
theorem dL_step_380 : decode cL_step 380 = .ok (.invokevirtual 46, 3) := by decide +kernel
theorem dL_step_383 : decode cL_step 383 = .ok (.iload 7, 2) := by decide +kernel
theorem dL_step_385 : decode cL_step 385 = .ok (.if_icmp .ne 16, 3) := by decide +kernel
theorem dL_step_388 : decode cL_step 388 = .ok (.aload_n 0, 1) := by decide +kernel
theorem dL_step_389 : decode cL_step 389 = .ok (.iload 6, 2) := by decide +kernel
theorem dL_step_391 : decode cL_step 391 = .ok (.invokevirtual 46, 3) := by decide +kernel
theorem dL_step_394 : decode cL_step 394 = .ok (.ifCond .ne 7, 3) := by decide +kernel
theorem dL_step_397 : decode cL_step 397 = .ok (.iconst 1, 1) := by decide +kernel
theorem dL_step_398 : decode cL_step 398 = .ok (.goto 4, 3) := by decide +kernel
theorem dL_step_401 : decode cL_step 401 = .ok (.iconst 0, 1) := by decide +kernel
theorem dL_step_402 : decode cL_step 402 = .ok (.ireturn, 1) := by decide +kernel
