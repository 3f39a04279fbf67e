theorem dL_law_0 : decode cL_law 0 = .ok (.new 11, 3) := by decide +kernel
theorem dL_law_3 : decode cL_law 3 = .ok (.dup, 1) := by decide +kernel
theorem dL_law_4 : decode cL_law 4 = .ok (.invokespecial 123, 3) := by decide +kernel
theorem dL_law_7 : decode cL_law 7 = .ok (.astore_n 1, 1) := by decide +kernel
theorem dL_law_8 : decode cL_law 8 = .ok (.bipush 64, 2) := by decide +kernel
theorem dL_law_10 : decode cL_law 10 = .ok (.newarray .int, 2) := by decide +kernel
theorem dL_law_12 : decode cL_law 12 = .ok (.astore_n 2, 1) := by decide +kernel
theorem dL_law_13 : decode cL_law 13 = .ok (.bipush 56, 2) := by decide +kernel
theorem dL_law_15 : decode cL_law 15 = .ok (.newarray .int, 2) := by decide +kernel
theorem dL_law_17 : decode cL_law 17 = .ok (.astore_n 3, 1) := by decide +kernel
theorem dL_law_18 : decode cL_law 18 = .ok (.bipush 56, 2) := by decide +kernel
theorem dL_law_20 : decode cL_law 20 = .ok (.newarray .int, 2) := by decide +kernel
theorem dL_law_22 : decode cL_law 22 = .ok (.astore 4, 2) := by decide +kernel
theorem dL_law_24 : decode cL_law 24 = .ok (.bipush 45, 2) := by decide +kernel
theorem dL_law_26 : decode cL_law 26 = .ok (.newarray .int, 2) := by decide +kernel
theorem dL_law_28 : decode cL_law 28 = .ok (.astore 5, 2) := by decide +kernel
theorem dL_law_30 : decode cL_law 30 = .ok (.bipush 7, 2) := by decide +kernel
theorem dL_law_32 : decode cL_law 32 = .ok (.newarray .int, 2) := by decide +kernel
theorem dL_law_34 : decode cL_law 34 = .ok (.astore 6, 2) := by decide +kernel
theorem dL_law_36 : decode cL_law 36 = .ok (.bipush 7, 2) := by decide +kernel
theorem dL_law_38 : decode cL_law 38 = .ok (.newarray .int, 2) := by decide +kernel
theorem dL_law_40 : decode cL_law 40 = .ok (.astore 7, 2) := by decide +kernel
theorem dL_law_42 : decode cL_law 42 = .ok (.iconst 3, 1) := by decide +kernel
theorem dL_law_43 : decode cL_law 43 = .ok (.newarray .int, 2) := by decide +kernel
theorem dL_law_45 : decode cL_law 45 = .ok (.astore 8, 2) := by decide +kernel
theorem dL_law_47 : decode cL_law 47 = .ok (.aload 5, 2) := by decide +kernel
theorem dL_law_49 : decode cL_law 49 = .ok (.bipush 37, 2) := by decide +kernel
theorem dL_law_51 : decode cL_law 51 = .ok (.iconst 1, 1) := by decide +kernel
theorem dL_law_52 : decode cL_law 52 = .ok (.iastore, 1) := by decide +kernel
theorem dL_law_53 : decode cL_law 53 = .ok (.aload 5, 2) := by decide +kernel
theorem dL_law_55 : decode cL_law 55 = .ok (.bipush 41, 2) := by decide +kernel
theorem dL_law_57 : decode cL_law 57 = .ok (.iconst 1, 1) := by decide +kernel
theorem dL_law_58 : decode cL_law 58 = .ok (.iastore, 1) := by decide +kernel
theorem dL_law_59 : decode cL_law 59 = .ok (.aload 5, 2) := by decide +kernel
theorem dL_law_61 : decode cL_law 61 = .ok (.bipush 42, 2) := by decide +kernel
theorem dL_law_63 : decode cL_law 63 = .ok (.iconst 1, 1) := by decide +kernel
theorem dL_law_64 : decode cL_law 64 = .ok (.iastore, 1) := by decide +kernel
theorem dL_law_65 : decode cL_law 65 = .ok (.aload 5, 2) := by decide +kernel
theorem dL_law_67 : decode cL_law 67 = .ok (.bipush 44, 2) := by decide +kernel
theorem dL_law_69 : decode cL_law 69 = .ok (.iconst 5, 1) := by decide +kernel
theorem dL_law_70 : decode cL_law 70 = .ok (.iastore, 1) := by decide +kernel
theorem dL_law_71 : decode cL_law 71 = .ok (.iconst 0, 1) := by decide +kernel
theorem dL_law_72 : decode cL_law 72 = .ok (.istore 9, 2) := by decide +kernel
theorem dL_law_74 : decode cL_law 74 = .ok (.iload 9, 2) := by decide +kernel
theorem dL_law_76 : decode cL_law 76 = .ok (.bipush 56, 2) := by decide +kernel
theorem dL_law_78 : decode cL_law 78 = .ok (.if_icmp .ge 15, 3) := by decide +kernel
theorem dL_law_81 : decode cL_law 81 = .ok (.aload 4, 2) := by decide +kernel
theorem dL_law_83 : decode cL_law 83 = .ok (.iload 9, 2) := by decide +kernel
theorem dL_law_85 : decode cL_law 85 = .ok (.iconst (-1), 1) := by decide +kernel
theorem dL_law_86 : decode cL_law 86 = .ok (.iastore, 1) := by decide +kernel
theorem dL_law_87 : decode cL_law 87 = .ok (.iinc 9 1, 3) := by decide +kernel
theorem dL_law_90 : decode cL_law 90 = .ok (.goto (-16), 3) := by decide +kernel
theorem dL_law_93 : decode cL_law 93 = .ok (.iconst 0, 1) := by decide +kernel
theorem dL_law_94 : decode cL_law 94 = .ok (.istore 9, 2) := by decide +kernel
theorem dL_law_96 : decode cL_law 96 = .ok (.iload 9, 2) := by decide +kernel
theorem dL_law_98 : decode cL_law 98 = .ok (.bipush 80, 2) := by decide +kernel
theorem dL_law_100 : decode cL_law 100 = .ok (.if_icmp .ge 954, 3) := by decide +kernel
theorem dL_law_103 : decode cL_law 103 = .ok (.aload_n 0, 1) := by decide +kernel
theorem dL_law_104 : decode cL_law 104 = .ok (.iload 9, 2) := by decide +kernel
theorem dL_law_106 : decode cL_law 106 = .ok (.invokestatic 124, 3) := by decide +kernel
theorem dL_law_109 : decode cL_law 109 = .ok (.istore 10, 2) := by decide +kernel
theorem dL_law_111 : decode cL_law 111 = .ok (.iload 10, 2) := by decide +kernel
theorem dL_law_113 : decode cL_law 113 = .ok (.bipush 28, 2) := by decide +kernel
theorem dL_law_115 : decode cL_law 115 = .ok (.invokestatic 103, 3) := by decide +kernel
theorem dL_law_118 : decode cL_law 118 = .ok (.istore 11, 2) := by decide +kernel
theorem dL_law_120 : decode cL_law 120 = .ok (.aload 8, 2) := by decide +kernel
theorem dL_law_122 : decode cL_law 122 = .ok (.iconst 0, 1) := by decide +kernel
theorem dL_law_123 : decode cL_law 123 = .ok (.iaload, 1) := by decide +kernel
theorem dL_law_124 : decode cL_law 124 = .ok (.ifCond .ne 7, 3) := by decide +kernel
theorem dL_law_127 : decode cL_law 127 = .ok (.iconst 0, 1) := by decide +kernel
theorem dL_law_128 : decode cL_law 128 = .ok (.goto 14, 3) := by decide +kernel
theorem dL_law_131 : decode cL_law 131 = .ok (.iload 10, 2) := by decide +kernel
theorem dL_law_133 : decode cL_law 133 = .ok (.iconst 5, 1) := by decide +kernel
theorem dL_law_134 : decode cL_law 134 = .ok (.ishr, 1) := by decide +kernel
theorem dL_law_135 : decode cL_law 135 = .ok (.aload 8, 2) := by decide +kernel
theorem dL_law_137 : decode cL_law 137 = .ok (.iconst 0, 1) := by decide +kernel
theorem dL_law_138 : decode cL_law 138 = .ok (.iaload, 1) := by decide +kernel
theorem dL_law_139 : decode cL_law 139 = .ok (.invokestatic 103, 3) := by decide +kernel
theorem dL_law_142 : decode cL_law 142 = .ok (.istore 12, 2) := by decide +kernel
theorem dL_law_144 : decode cL_law 144 = .ok (.iload 10, 2) := by decide +kernel
theorem dL_law_146 : decode cL_law 146 = .ok (.bipush 8, 2) := by decide +kernel
theorem dL_law_148 : decode cL_law 148 = .ok (.ishr, 1) := by decide +kernel
theorem dL_law_149 : decode cL_law 149 = .ok (.bipush 7, 2) := by decide +kernel
theorem dL_law_151 : decode cL_law 151 = .ok (.invokestatic 103, 3) := by decide +kernel
theorem dL_law_154 : decode cL_law 154 = .ok (.istore 13, 2) := by decide +kernel
theorem dL_law_156 : decode cL_law 156 = .ok (.iconst 0, 1) := by decide +kernel
theorem dL_law_157 : decode cL_law 157 = .ok (.istore 14, 2) := by decide +kernel
theorem dL_law_159 : decode cL_law 159 = .ok (.iconst 0, 1) := by decide +kernel
theorem dL_law_160 : decode cL_law 160 = .ok (.istore 15, 2) := by decide +kernel
theorem dL_law_162 : decode cL_law 162 = .ok (.aload 8, 2) := by decide +kernel
theorem dL_law_164 : decode cL_law 164 = .ok (.iconst 0, 1) := by decide +kernel
theorem dL_law_165 : decode cL_law 165 = .ok (.iaload, 1) := by decide +kernel
theorem dL_law_166 : decode cL_law 166 = .ok (.iconst 3, 1) := by decide +kernel
theorem dL_law_167 : decode cL_law 167 = .ok (.if_icmp .lt 17, 3) := by decide +kernel
theorem dL_law_170 : decode cL_law 170 = .ok (.iload 11, 2) := by decide +kernel
theorem dL_law_172 : decode cL_law 172 = .ok (.ifCond .ne 122, 3) := by decide +kernel
theorem dL_law_175 : decode cL_law 175 = .ok (.aload 8, 2) := by decide +kernel
theorem dL_law_177 : decode cL_law 177 = .ok (.iconst 0, 1) := by decide +kernel
theorem dL_law_178 : decode cL_law 178 = .ok (.iaload, 1) := by decide +kernel
theorem dL_law_179 : decode cL_law 179 = .ok (.bipush 8, 2) := by decide +kernel
theorem dL_law_181 : decode cL_law 181 = .ok (.if_icmp .ge 113, 3) := by decide +kernel
theorem dL_law_184 : decode cL_law 184 = .ok (.aload_n 2, 1) := by decide +kernel
theorem dL_law_185 : decode cL_law 185 = .ok (.bipush 8, 2) := by decide +kernel
theorem dL_law_187 : decode cL_law 187 = .ok (.aload 8, 2) := by decide +kernel
theorem dL_law_189 : decode cL_law 189 = .ok (.iconst 0, 1) := by decide +kernel
theorem dL_law_190 : decode cL_law 190 = .ok (.iaload, 1) := by decide +kernel
theorem dL_law_191 : decode cL_law 191 = .ok (.imul, 1) := by decide +kernel
theorem dL_law_192 : decode cL_law 192 = .ok (.iconst 2, 1) := by decide +kernel
theorem dL_law_193 : decode cL_law 193 = .ok (.iconst 2, 1) := by decide +kernel
theorem dL_law_194 : decode cL_law 194 = .ok (.iload 10, 2) := by decide +kernel
theorem dL_law_196 : decode cL_law 196 = .ok (.iconst 5, 1) := by decide +kernel
theorem dL_law_197 : decode cL_law 197 = .ok (.ishr, 1) := by decide +kernel
theorem dL_law_198 : decode cL_law 198 = .ok (.bipush 7, 2) := by decide +kernel
theorem dL_law_200 : decode cL_law 200 = .ok (.invokestatic 103, 3) := by decide +kernel
theorem dL_law_203 : decode cL_law 203 = .ok (.imul, 1) := by decide +kernel
theorem dL_law_204 : decode cL_law 204 = .ok (.iadd, 1) := by decide +kernel
theorem dL_law_205 : decode cL_law 205 = .ok (.iastore, 1) := by decide +kernel
theorem dL_law_206 : decode cL_law 206 = .ok (.aload_n 2, 1) := by decide +kernel
theorem dL_law_207 : decode cL_law 207 = .ok (.bipush 8, 2) := by decide +kernel
theorem dL_law_209 : decode cL_law 209 = .ok (.aload 8, 2) := by decide +kernel
theorem dL_law_211 : decode cL_law 211 = .ok (.iconst 0, 1) := by decide +kernel
theorem dL_law_212 : decode cL_law 212 = .ok (.iaload, 1) := by decide +kernel
theorem dL_law_213 : decode cL_law 213 = .ok (.imul, 1) := by decide +kernel
theorem dL_law_214 : decode cL_law 214 = .ok (.iconst 1, 1) := by decide +kernel
theorem dL_law_215 : decode cL_law 215 = .ok (.iadd, 1) := by decide +kernel
theorem dL_law_216 : decode cL_law 216 = .ok (.iload 10, 2) := by decide +kernel
theorem dL_law_218 : decode cL_law 218 = .ok (.bipush 8, 2) := by decide +kernel
theorem dL_law_220 : decode cL_law 220 = .ok (.ishr, 1) := by decide +kernel
theorem dL_law_221 : decode cL_law 221 = .ok (.iconst 4, 1) := by decide +kernel
theorem dL_law_222 : decode cL_law 222 = .ok (.invokestatic 103, 3) := by decide +kernel
theorem dL_law_225 : decode cL_law 225 = .ok (.ifCond .ne 16, 3) := by decide +kernel
theorem dL_law_228 : decode cL_law 228 = .ok (.iload 10, 2) := by decide +kernel
theorem dL_law_230 : decode cL_law 230 = .ok (.bipush 10, 2) := by decide +kernel
theorem dL_law_232 : decode cL_law 232 = .ok (.ishr, 1) := by decide +kernel
theorem dL_law_233 : decode cL_law 233 = .ok (.bipush 8, 2) := by decide +kernel
theorem dL_law_235 : decode cL_law 235 = .ok (.invokestatic 103, 3) := by decide +kernel
theorem dL_law_238 : decode cL_law 238 = .ok (.goto 14, 3) := by decide +kernel
theorem dL_law_241 : decode cL_law 241 = .ok (.iconst 4, 1) := by decide +kernel
theorem dL_law_242 : decode cL_law 242 = .ok (.iload 10, 2) := by decide +kernel
theorem dL_law_244 : decode cL_law 244 = .ok (.bipush 10, 2) := by decide +kernel
theorem dL_law_246 : decode cL_law 246 = .ok (.ishr, 1) := by decide +kernel
theorem dL_law_247 : decode cL_law 247 = .ok (.iconst 3, 1) := by decide +kernel
theorem dL_law_248 : decode cL_law 248 = .ok (.invokestatic 103, 3) := by decide +kernel
theorem dL_law_251 : decode cL_law 251 = .ok (.iadd, 1) := by decide +kernel
theorem dL_law_252 : decode cL_law 252 = .ok (.iastore, 1) := by decide +kernel
theorem dL_law_253 : decode cL_law 253 = .ok (.aload 8, 2) := by decide +kernel
theorem dL_law_255 : decode cL_law 255 = .ok (.iconst 0, 1) := by decide +kernel
theorem dL_law_256 : decode cL_law 256 = .ok (.iaload, 1) := by decide +kernel
theorem dL_law_257 : decode cL_law 257 = .ok (.istore 14, 2) := by decide +kernel
theorem dL_law_259 : decode cL_law 259 = .ok (.aload 8, 2) := by decide +kernel
theorem dL_law_261 : decode cL_law 261 = .ok (.iconst 0, 1) := by decide +kernel
theorem dL_law_262 : decode cL_law 262 = .ok (.dup2, 1) := by decide +kernel
theorem dL_law_263 : decode cL_law 263 = .ok (.iaload, 1) := by decide +kernel
theorem dL_law_264 : decode cL_law 264 = .ok (.iconst 1, 1) := by decide +kernel
theorem dL_law_265 : decode cL_law 265 = .ok (.iadd, 1) := by decide +kernel
theorem dL_law_266 : decode cL_law 266 = .ok (.iastore, 1) := by decide +kernel
theorem dL_law_267 : decode cL_law 267 = .ok (.aload_n 1, 1) := by decide +kernel
theorem dL_law_268 : decode cL_law 268 = .ok (.iconst 0, 1) := by decide +kernel
theorem dL_law_269 : decode cL_law 269 = .ok (.aload_n 2, 1) := by decide +kernel
theorem dL_law_270 : decode cL_law 270 = .ok (.bipush 8, 2) := by decide +kernel
theorem dL_law_272 : decode cL_law 272 = .ok (.iload 14, 2) := by decide +kernel
theorem dL_law_274 : decode cL_law 274 = .ok (.imul, 1) := by decide +kernel
theorem dL_law_275 : decode cL_law 275 = .ok (.iaload, 1) := by decide +kernel
theorem dL_law_276 : decode cL_law 276 = .ok (.aload_n 2, 1) := by decide +kernel
theorem dL_law_277 : decode cL_law 277 = .ok (.bipush 8, 2) := by decide +kernel
theorem dL_law_279 : decode cL_law 279 = .ok (.iload 14, 2) := by decide +kernel
theorem dL_law_281 : decode cL_law 281 = .ok (.imul, 1) := by decide +kernel
theorem dL_law_282 : decode cL_law 282 = .ok (.iconst 1, 1) := by decide +kernel
theorem dL_law_283 : decode cL_law 283 = .ok (.iadd, 1) := by decide +kernel
theorem dL_law_284 : decode cL_law 284 = .ok (.iaload, 1) := by decide +kernel
theorem dL_law_285 : decode cL_law 285 = .ok (.iconst 0, 1) := by decide +kernel
theorem dL_law_286 : decode cL_law 286 = .ok (.invokestatic 128, 3) := by decide +kernel
theorem dL_law_289 : decode cL_law 289 = .ok (.istore 15, 2) := by decide +kernel
theorem dL_law_291 : decode cL_law 291 = .ok (.goto 718, 3) := by decide +kernel
theorem dL_law_294 : decode cL_law 294 = .ok (.iload 11, 2) := by decide +kernel
theorem dL_law_296 : decode cL_law 296 = .ok (.bipush 10, 2) := by decide +kernel
theorem dL_law_298 : decode cL_law 298 = .ok (.if_icmp .ge 61, 3) := by decide +kernel
theorem dL_law_301 : decode cL_law 301 = .ok (.iconst 4, 1) := by decide +kernel
theorem dL_law_302 : decode cL_law 302 = .ok (.iload 13, 2) := by decide +kernel
theorem dL_law_304 : decode cL_law 304 = .ok (.imul, 1) := by decide +kernel
theorem dL_law_305 : decode cL_law 305 = .ok (.iconst 1, 1) := by decide +kernel
theorem dL_law_306 : decode cL_law 306 = .ok (.iadd, 1) := by decide +kernel
theorem dL_law_307 : decode cL_law 307 = .ok (.iload 10, 2) := by decide +kernel
theorem dL_law_309 : decode cL_law 309 = .ok (.bipush 11, 2) := by decide +kernel
theorem dL_law_311 : decode cL_law 311 = .ok (.ishr, 1) := by decide +kernel
theorem dL_law_312 : decode cL_law 312 = .ok (.iconst 3, 1) := by decide +kernel
theorem dL_law_313 : decode cL_law 313 = .ok (.invokestatic 103, 3) := by decide +kernel
theorem dL_law_316 : decode cL_law 316 = .ok (.iadd, 1) := by decide +kernel
theorem dL_law_317 : decode cL_law 317 = .ok (.istore 16, 2) := by decide +kernel
theorem dL_law_319 : decode cL_law 319 = .ok (.aload 5, 2) := by decide +kernel
theorem dL_law_321 : decode cL_law 321 = .ok (.iload 16, 2) := by decide +kernel
theorem dL_law_323 : decode cL_law 323 = .ok (.iaload, 1) := by decide +kernel
theorem dL_law_324 : decode cL_law 324 = .ok (.istore 14, 2) := by decide +kernel
theorem dL_law_326 : decode cL_law 326 = .ok (.aload 5, 2) := by decide +kernel
theorem dL_law_328 : decode cL_law 328 = .ok (.iload 16, 2) := by decide +kernel
theorem dL_law_330 : decode cL_law 330 = .ok (.iload 10, 2) := by decide +kernel
theorem dL_law_332 : decode cL_law 332 = .ok (.iconst 5, 1) := by decide +kernel
theorem dL_law_333 : decode cL_law 333 = .ok (.ishr, 1) := by decide +kernel
theorem dL_law_334 : decode cL_law 334 = .ok (.iconst 4, 1) := by decide +kernel
theorem dL_law_335 : decode cL_law 335 = .ok (.invokestatic 103, 3) := by decide +kernel
theorem dL_law_338 : decode cL_law 338 = .ok (.iastore, 1) := by decide +kernel
theorem dL_law_339 : decode cL_law 339 = .ok (.aload_n 1, 1) := by decide +kernel
theorem dL_law_340 : decode cL_law 340 = .ok (.iload 13, 2) := by decide +kernel
theorem dL_law_342 : decode cL_law 342 = .ok (.iload 16, 2) := by decide +kernel
theorem dL_law_344 : decode cL_law 344 = .ok (.iconst 4, 1) := by decide +kernel
theorem dL_law_345 : decode cL_law 345 = .ok (.irem, 1) := by decide +kernel
theorem dL_law_346 : decode cL_law 346 = .ok (.aload 5, 2) := by decide +kernel
theorem dL_law_348 : decode cL_law 348 = .ok (.iload 16, 2) := by decide +kernel
theorem dL_law_350 : decode cL_law 350 = .ok (.iaload, 1) := by decide +kernel
theorem dL_law_351 : decode cL_law 351 = .ok (.invokevirtual 132, 3) := by decide +kernel
theorem dL_law_354 : decode cL_law 354 = .ok (.istore 15, 2) := by decide +kernel
theorem dL_law_356 : decode cL_law 356 = .ok (.goto 653, 3) := by decide +kernel
theorem dL_law_359 : decode cL_law 359 = .ok (.iload 11, 2) := by decide +kernel
theorem dL_law_361 : decode cL_law 361 = .ok (.bipush 12, 2) := by decide +kernel
theorem dL_law_363 : decode cL_law 363 = .ok (.if_icmp .ge 106, 3) := by decide +kernel
theorem dL_law_366 : decode cL_law 366 = .ok (.bipush 28, 2) := by decide +kernel
theorem dL_law_368 : decode cL_law 368 = .ok (.iconst 4, 1) := by decide +kernel
theorem dL_law_369 : decode cL_law 369 = .ok (.iconst 1, 1) := by decide +kernel
theorem dL_law_370 : decode cL_law 370 = .ok (.iload 10, 2) := by decide +kernel
theorem dL_law_372 : decode cL_law 372 = .ok (.iconst 5, 1) := by decide +kernel
theorem dL_law_373 : decode cL_law 373 = .ok (.ishr, 1) := by decide +kernel
theorem dL_law_374 : decode cL_law 374 = .ok (.iconst 3, 1) := by decide +kernel
theorem dL_law_375 : decode cL_law 375 = .ok (.invokestatic 103, 3) := by decide +kernel
theorem dL_law_378 : decode cL_law 378 = .ok (.iadd, 1) := by decide +kernel
theorem dL_law_379 : decode cL_law 379 = .ok (.imul, 1) := by decide +kernel
theorem dL_law_380 : decode cL_law 380 = .ok (.iadd, 1) := by decide +kernel
theorem dL_law_381 : decode cL_law 381 = .ok (.iconst 1, 1) := by decide +kernel
theorem dL_law_382 : decode cL_law 382 = .ok (.iadd, 1) := by decide +kernel
theorem dL_law_383 : decode cL_law 383 = .ok (.iload 10, 2) := by decide +kernel
theorem dL_law_385 : decode cL_law 385 = .ok (.bipush 7, 2) := by decide +kernel
theorem dL_law_387 : decode cL_law 387 = .ok (.ishr, 1) := by decide +kernel
theorem dL_law_388 : decode cL_law 388 = .ok (.iconst 3, 1) := by decide +kernel
theorem dL_law_389 : decode cL_law 389 = .ok (.invokestatic 103, 3) := by decide +kernel
theorem dL_law_392 : decode cL_law 392 = .ok (.iadd, 1) := by decide +kernel
theorem dL_law_393 : decode cL_law 393 = .ok (.istore 16, 2) := by decide +kernel
theorem dL_law_395 : decode cL_law 395 = .ok (.iload 10, 2) := by decide +kernel
theorem dL_law_397 : decode cL_law 397 = .ok (.bipush 9, 2) := by decide +kernel
theorem dL_law_399 : decode cL_law 399 = .ok (.ishr, 1) := by decide +kernel
theorem dL_law_400 : decode cL_law 400 = .ok (.iconst 2, 1) := by decide +kernel
theorem dL_law_401 : decode cL_law 401 = .ok (.invokestatic 103, 3) := by decide +kernel
theorem dL_law_404 : decode cL_law 404 = .ok (.istore 17, 2) := by decide +kernel
theorem dL_law_406 : decode cL_law 406 = .ok (.aload 5, 2) := by decide +kernel
theorem dL_law_408 : decode cL_law 408 = .ok (.iload 16, 2) := by decide +kernel
theorem dL_law_410 : decode cL_law 410 = .ok (.iaload, 1) := by decide +kernel
theorem dL_law_411 : decode cL_law 411 = .ok (.iload 17, 2) := by decide +kernel
theorem dL_law_413 : decode cL_law 413 = .ok (.if_icmp .ne 7, 3) := by decide +kernel
theorem dL_law_416 : decode cL_law 416 = .ok (.iconst 0, 1) := by decide +kernel
theorem dL_law_417 : decode cL_law 417 = .ok (.goto 4, 3) := by decide +kernel
theorem dL_law_420 : decode cL_law 420 = .ok (.iconst 1, 1) := by decide +kernel
theorem dL_law_421 : decode cL_law 421 = .ok (.istore 14, 2) := by decide +kernel
theorem dL_law_423 : decode cL_law 423 = .ok (.aload 5, 2) := by decide +kernel
theorem dL_law_425 : decode cL_law 425 = .ok (.iload 16, 2) := by decide +kernel
theorem dL_law_427 : decode cL_law 427 = .ok (.iload 17, 2) := by decide +kernel
theorem dL_law_429 : decode cL_law 429 = .ok (.iastore, 1) := by decide +kernel
theorem dL_law_430 : decode cL_law 430 = .ok (.aload_n 1, 1) := by decide +kernel
theorem dL_law_431 : decode cL_law 431 = .ok (.iload 16, 2) := by decide +kernel
theorem dL_law_433 : decode cL_law 433 = .ok (.bipush 28, 2) := by decide +kernel
theorem dL_law_435 : decode cL_law 435 = .ok (.isub, 1) := by decide +kernel
theorem dL_law_436 : decode cL_law 436 = .ok (.iconst 4, 1) := by decide +kernel
theorem dL_law_437 : decode cL_law 437 = .ok (.idiv, 1) := by decide +kernel
theorem dL_law_438 : decode cL_law 438 = .ok (.iload 16, 2) := by decide +kernel
theorem dL_law_440 : decode cL_law 440 = .ok (.iconst 4, 1) := by decide +kernel
theorem dL_law_441 : decode cL_law 441 = .ok (.irem, 1) := by decide +kernel
theorem dL_law_442 : decode cL_law 442 = .ok (.iload 17, 2) := by decide +kernel
theorem dL_law_444 : decode cL_law 444 = .ok (.iconst 1, 1) := by decide +kernel
theorem dL_law_445 : decode cL_law 445 = .ok (.if_icmp .ne 7, 3) := by decide +kernel
theorem dL_law_448 : decode cL_law 448 = .ok (.iconst 1, 1) := by decide +kernel
theorem dL_law_449 : decode cL_law 449 = .ok (.goto 4, 3) := by decide +kernel
theorem dL_law_452 : decode cL_law 452 = .ok (.iconst 0, 1) := by decide +kernel
theorem dL_law_453 : decode cL_law 453 = .ok (.invokevirtual 135, 3) := by decide +kernel
theorem dL_law_456 : decode cL_law 456 = .ok (.ifCond .eq 7, 3) := by decide +kernel
theorem dL_law_459 : decode cL_law 459 = .ok (.iconst 1, 1) := by decide +kernel
theorem dL_law_460 : decode cL_law 460 = .ok (.goto 4, 3) := by decide +kernel
theorem dL_law_463 : decode cL_law 463 = .ok (.iconst 0, 1) := by decide +kernel
theorem dL_law_464 : decode cL_law 464 = .ok (.istore 15, 2) := by decide +kernel
theorem dL_law_466 : decode cL_law 466 = .ok (.goto 543, 3) := by decide +kernel
theorem dL_law_469 : decode cL_law 469 = .ok (.iload 11, 2) := by decide +kernel
theorem dL_law_471 : decode cL_law 471 = .ok (.bipush 12, 2) := by decide +kernel
theorem dL_law_473 : decode cL_law 473 = .ok (.if_icmp .ne 40, 3) := by decide +kernel
theorem dL_law_476 : decode cL_law 476 = .ok (.aload 5, 2) := by decide +kernel
theorem dL_law_478 : decode cL_law 478 = .ok (.bipush 44, 2) := by decide +kernel
theorem dL_law_480 : decode cL_law 480 = .ok (.iaload, 1) := by decide +kernel
theorem dL_law_481 : decode cL_law 481 = .ok (.istore 14, 2) := by decide +kernel
theorem dL_law_483 : decode cL_law 483 = .ok (.aload 5, 2) := by decide +kernel
theorem dL_law_485 : decode cL_law 485 = .ok (.bipush 44, 2) := by decide +kernel
theorem dL_law_487 : decode cL_law 487 = .ok (.iconst 1, 1) := by decide +kernel
theorem dL_law_488 : decode cL_law 488 = .ok (.iload 10, 2) := by decide +kernel
theorem dL_law_490 : decode cL_law 490 = .ok (.iconst 5, 1) := by decide +kernel
theorem dL_law_491 : decode cL_law 491 = .ok (.ishr, 1) := by decide +kernel
theorem dL_law_492 : decode cL_law 492 = .ok (.bipush 14, 2) := by decide +kernel
theorem dL_law_494 : decode cL_law 494 = .ok (.invokestatic 103, 3) := by decide +kernel
theorem dL_law_497 : decode cL_law 497 = .ok (.iadd, 1) := by decide +kernel
theorem dL_law_498 : decode cL_law 498 = .ok (.iastore, 1) := by decide +kernel
theorem dL_law_499 : decode cL_law 499 = .ok (.aload_n 1, 1) := by decide +kernel
theorem dL_law_500 : decode cL_law 500 = .ok (.aload 5, 2) := by decide +kernel
theorem dL_law_502 : decode cL_law 502 = .ok (.bipush 44, 2) := by decide +kernel
theorem dL_law_504 : decode cL_law 504 = .ok (.iaload, 1) := by decide +kernel
theorem dL_law_505 : decode cL_law 505 = .ok (.invokevirtual 139, 3) := by decide +kernel
theorem dL_law_508 : decode cL_law 508 = .ok (.istore 15, 2) := by decide +kernel
theorem dL_law_510 : decode cL_law 510 = .ok (.goto 499, 3) := by decide +kernel
theorem dL_law_513 : decode cL_law 513 = .ok (.iload 11, 2) := by decide +kernel
theorem dL_law_515 : decode cL_law 515 = .ok (.bipush 15, 2) := by decide +kernel
theorem dL_law_517 : decode cL_law 517 = .ok (.if_icmp .ge 97, 3) := by decide +kernel
theorem dL_law_520 : decode cL_law 520 = .ok (.iload 10, 2) := by decide +kernel
theorem dL_law_522 : decode cL_law 522 = .ok (.bipush 11, 2) := by decide +kernel
theorem dL_law_524 : decode cL_law 524 = .ok (.ishr, 1) := by decide +kernel
theorem dL_law_525 : decode cL_law 525 = .ok (.iconst 3, 1) := by decide +kernel
theorem dL_law_526 : decode cL_law 526 = .ok (.invokestatic 103, 3) := by decide +kernel
theorem dL_law_529 : decode cL_law 529 = .ok (.ifCond .ne 7, 3) := by decide +kernel
theorem dL_law_532 : decode cL_law 532 = .ok (.iconst 0, 1) := by decide +kernel
theorem dL_law_533 : decode cL_law 533 = .ok (.goto 4, 3) := by decide +kernel
theorem dL_law_536 : decode cL_law 536 = .ok (.iconst 1, 1) := by decide +kernel
theorem dL_law_537 : decode cL_law 537 = .ok (.istore 16, 2) := by decide +kernel
theorem dL_law_539 : decode cL_law 539 = .ok (.aload_n 2, 1) := by decide +kernel
theorem dL_law_540 : decode cL_law 540 = .ok (.bipush 8, 2) := by decide +kernel
theorem dL_law_542 : decode cL_law 542 = .ok (.iload 12, 2) := by decide +kernel
theorem dL_law_544 : decode cL_law 544 = .ok (.imul, 1) := by decide +kernel
theorem dL_law_545 : decode cL_law 545 = .ok (.iconst 2, 1) := by decide +kernel
theorem dL_law_546 : decode cL_law 546 = .ok (.iadd, 1) := by decide +kernel
theorem dL_law_547 : decode cL_law 547 = .ok (.iaload, 1) := by decide +kernel
theorem dL_law_548 : decode cL_law 548 = .ok (.iload 13, 2) := by decide +kernel
theorem dL_law_550 : decode cL_law 550 = .ok (.ishr, 1) := by decide +kernel
theorem dL_law_551 : decode cL_law 551 = .ok (.iconst 1, 1) := by decide +kernel
theorem dL_law_552 : decode cL_law 552 = .ok (.iand, 1) := by decide +kernel
theorem dL_law_553 : decode cL_law 553 = .ok (.iload 16, 2) := by decide +kernel
theorem dL_law_555 : decode cL_law 555 = .ok (.if_icmp .ne 7, 3) := by decide +kernel
theorem dL_law_558 : decode cL_law 558 = .ok (.iconst 0, 1) := by decide +kernel
theorem dL_law_559 : decode cL_law 559 = .ok (.goto 4, 3) := by decide +kernel
theorem dL_law_562 : decode cL_law 562 = .ok (.iconst 1, 1) := by decide +kernel
theorem dL_law_563 : decode cL_law 563 = .ok (.istore 14, 2) := by decide +kernel
theorem dL_law_565 : decode cL_law 565 = .ok (.aload_n 2, 1) := by decide +kernel
theorem dL_law_566 : decode cL_law 566 = .ok (.bipush 8, 2) := by decide +kernel
theorem dL_law_568 : decode cL_law 568 = .ok (.iload 12, 2) := by decide +kernel
theorem dL_law_570 : decode cL_law 570 = .ok (.imul, 1) := by decide +kernel
theorem dL_law_571 : decode cL_law 571 = .ok (.iconst 2, 1) := by decide +kernel
theorem dL_law_572 : decode cL_law 572 = .ok (.iadd, 1) := by decide +kernel
theorem dL_law_573 : decode cL_law 573 = .ok (.dup2, 1) := by decide +kernel
theorem dL_law_574 : decode cL_law 574 = .ok (.iaload, 1) := by decide +kernel
theorem dL_law_575 : decode cL_law 575 = .ok (.iload 14, 2) := by decide +kernel
theorem dL_law_577 : decode cL_law 577 = .ok (.iload 13, 2) := by decide +kernel
theorem dL_law_579 : decode cL_law 579 = .ok (.ishl, 1) := by decide +kernel
theorem dL_law_580 : decode cL_law 580 = .ok (.ixor, 1) := by decide +kernel
theorem dL_law_581 : decode cL_law 581 = .ok (.iastore, 1) := by decide +kernel
theorem dL_law_582 : decode cL_law 582 = .ok (.aload_n 1, 1) := by decide +kernel
theorem dL_law_583 : decode cL_law 583 = .ok (.iload 12, 2) := by decide +kernel
theorem dL_law_585 : decode cL_law 585 = .ok (.iload 13, 2) := by decide +kernel
theorem dL_law_587 : decode cL_law 587 = .ok (.iload 16, 2) := by decide +kernel
theorem dL_law_589 : decode cL_law 589 = .ok (.iconst 1, 1) := by decide +kernel
theorem dL_law_590 : decode cL_law 590 = .ok (.if_icmp .ne 7, 3) := by decide +kernel
theorem dL_law_593 : decode cL_law 593 = .ok (.iconst 1, 1) := by decide +kernel
theorem dL_law_594 : decode cL_law 594 = .ok (.goto 4, 3) := by decide +kernel
theorem dL_law_597 : decode cL_law 597 = .ok (.iconst 0, 1) := by decide +kernel
theorem dL_law_598 : decode cL_law 598 = .ok (.invokevirtual 142, 3) := by decide +kernel
theorem dL_law_601 : decode cL_law 601 = .ok (.ifCond .eq 7, 3) := by decide +kernel
theorem dL_law_604 : decode cL_law 604 = .ok (.iconst 1, 1) := by decide +kernel
theorem dL_law_605 : decode cL_law 605 = .ok (.goto 4, 3) := by decide +kernel
theorem dL_law_608 : decode cL_law 608 = .ok (.iconst 0, 1) := by decide +kernel
theorem dL_law_609 : decode cL_law 609 = .ok (.istore 15, 2) := by decide +kernel
theorem dL_law_611 : decode cL_law 611 = .ok (.goto 398, 3) := by decide +kernel
theorem dL_law_614 : decode cL_law 614 = .ok (.iload 11, 2) := by decide +kernel
theorem dL_law_616 : decode cL_law 616 = .ok (.bipush 17, 2) := by decide +kernel
theorem dL_law_618 : decode cL_law 618 = .ok (.if_icmp .ge 62, 3) := by decide +kernel
theorem dL_law_621 : decode cL_law 621 = .ok (.aload 4, 2) := by decide +kernel
theorem dL_law_623 : decode cL_law 623 = .ok (.bipush 7, 2) := by decide +kernel
theorem dL_law_625 : decode cL_law 625 = .ok (.iload 12, 2) := by decide +kernel
theorem dL_law_627 : decode cL_law 627 = .ok (.imul, 1) := by decide +kernel
theorem dL_law_628 : decode cL_law 628 = .ok (.iload 13, 2) := by decide +kernel
theorem dL_law_630 : decode cL_law 630 = .ok (.iadd, 1) := by decide +kernel
theorem dL_law_631 : decode cL_law 631 = .ok (.iaload, 1) := by decide +kernel
theorem dL_law_632 : decode cL_law 632 = .ok (.istore 14, 2) := by decide +kernel
theorem dL_law_634 : decode cL_law 634 = .ok (.aload 4, 2) := by decide +kernel
theorem dL_law_636 : decode cL_law 636 = .ok (.bipush 7, 2) := by decide +kernel
theorem dL_law_638 : decode cL_law 638 = .ok (.iload 12, 2) := by decide +kernel
theorem dL_law_640 : decode cL_law 640 = .ok (.imul, 1) := by decide +kernel
theorem dL_law_641 : decode cL_law 641 = .ok (.iload 13, 2) := by decide +kernel
theorem dL_law_643 : decode cL_law 643 = .ok (.iadd, 1) := by decide +kernel
theorem dL_law_644 : decode cL_law 644 = .ok (.iload 10, 2) := by decide +kernel
theorem dL_law_646 : decode cL_law 646 = .ok (.bipush 11, 2) := by decide +kernel
theorem dL_law_648 : decode cL_law 648 = .ok (.ishr, 1) := by decide +kernel
theorem dL_law_649 : decode cL_law 649 = .ok (.iconst 5, 1) := by decide +kernel
theorem dL_law_650 : decode cL_law 650 = .ok (.invokestatic 103, 3) := by decide +kernel
theorem dL_law_653 : decode cL_law 653 = .ok (.iconst 1, 1) := by decide +kernel
theorem dL_law_654 : decode cL_law 654 = .ok (.isub, 1) := by decide +kernel
theorem dL_law_655 : decode cL_law 655 = .ok (.iastore, 1) := by decide +kernel
theorem dL_law_656 : decode cL_law 656 = .ok (.aload_n 1, 1) := by decide +kernel
theorem dL_law_657 : decode cL_law 657 = .ok (.iload 12, 2) := by decide +kernel
theorem dL_law_659 : decode cL_law 659 = .ok (.iload 13, 2) := by decide +kernel
theorem dL_law_661 : decode cL_law 661 = .ok (.aload 4, 2) := by decide +kernel
theorem dL_law_663 : decode cL_law 663 = .ok (.bipush 7, 2) := by decide +kernel
theorem dL_law_665 : decode cL_law 665 = .ok (.iload 12, 2) := by decide +kernel
theorem dL_law_667 : decode cL_law 667 = .ok (.imul, 1) := by decide +kernel
theorem dL_law_668 : decode cL_law 668 = .ok (.iload 13, 2) := by decide +kernel
theorem dL_law_670 : decode cL_law 670 = .ok (.iadd, 1) := by decide +kernel
theorem dL_law_671 : decode cL_law 671 = .ok (.iaload, 1) := by decide +kernel
theorem dL_law_672 : decode cL_law 672 = .ok (.invokevirtual 145, 3) := by decide +kernel
theorem dL_law_675 : decode cL_law 675 = .ok (.istore 15, 2) := by decide +kernel
theorem dL_law_677 : decode cL_law 677 = .ok (.goto 332, 3) := by decide +kernel
theorem dL_law_680 : decode cL_law 680 = .ok (.iload 11, 2) := by decide +kernel
theorem dL_law_682 : decode cL_law 682 = .ok (.bipush 19, 2) := by decide +kernel
theorem dL_law_684 : decode cL_law 684 = .ok (.if_icmp .ge 37, 3) := by decide +kernel
theorem dL_law_687 : decode cL_law 687 = .ok (.aload 6, 2) := by decide +kernel
theorem dL_law_689 : decode cL_law 689 = .ok (.aload 7, 2) := by decide +kernel
theorem dL_law_691 : decode cL_law 691 = .ok (.aload_n 2, 1) := by decide +kernel
theorem dL_law_692 : decode cL_law 692 = .ok (.aload_n 3, 1) := by decide +kernel
theorem dL_law_693 : decode cL_law 693 = .ok (.aload 4, 2) := by decide +kernel
theorem dL_law_695 : decode cL_law 695 = .ok (.aload 5, 2) := by decide +kernel
theorem dL_law_697 : decode cL_law 697 = .ok (.aload 8, 2) := by decide +kernel
theorem dL_law_699 : decode cL_law 699 = .ok (.invokestatic 148, 3) := by decide +kernel
theorem dL_law_702 : decode cL_law 702 = .ok (.aload_n 3, 1) := by decide +kernel
theorem dL_law_703 : decode cL_law 703 = .ok (.aload 5, 2) := by decide +kernel
theorem dL_law_705 : decode cL_law 705 = .ok (.aload 8, 2) := by decide +kernel
theorem dL_law_707 : decode cL_law 707 = .ok (.invokestatic 66, 3) := by decide +kernel
theorem dL_law_710 : decode cL_law 710 = .ok (.istore 14, 2) := by decide +kernel
theorem dL_law_712 : decode cL_law 712 = .ok (.aload_n 1, 1) := by decide +kernel
theorem dL_law_713 : decode cL_law 713 = .ok (.invokevirtual 152, 3) := by decide +kernel
theorem dL_law_716 : decode cL_law 716 = .ok (.istore 15, 2) := by decide +kernel
theorem dL_law_718 : decode cL_law 718 = .ok (.goto 291, 3) := by decide +kernel
theorem dL_law_721 : decode cL_law 721 = .ok (.iload 11, 2) := by decide +kernel
theorem dL_law_723 : decode cL_law 723 = .ok (.bipush 23, 2) := by decide +kernel
theorem dL_law_725 : decode cL_law 725 = .ok (.if_icmp .ge 101, 3) := by decide +kernel
theorem dL_law_728 : decode cL_law 728 = .ok (.iload 10, 2) := by decide +kernel
theorem dL_law_730 : decode cL_law 730 = .ok (.bipush 11, 2) := by decide +kernel
theorem dL_law_732 : decode cL_law 732 = .ok (.ishr, 1) := by decide +kernel
theorem dL_law_733 : decode cL_law 733 = .ok (.iconst 4, 1) := by decide +kernel
theorem dL_law_734 : decode cL_law 734 = .ok (.invokestatic 103, 3) := by decide +kernel
theorem dL_law_737 : decode cL_law 737 = .ok (.istore 16, 2) := by decide +kernel
theorem dL_law_739 : decode cL_law 739 = .ok (.iload 12, 2) := by decide +kernel
theorem dL_law_741 : decode cL_law 741 = .ok (.iload 13, 2) := by decide +kernel
theorem dL_law_743 : decode cL_law 743 = .ok (.iload 16, 2) := by decide +kernel
theorem dL_law_745 : decode cL_law 745 = .ok (.aload 6, 2) := by decide +kernel
theorem dL_law_747 : decode cL_law 747 = .ok (.aload_n 2, 1) := by decide +kernel
theorem dL_law_748 : decode cL_law 748 = .ok (.aload_n 3, 1) := by decide +kernel
theorem dL_law_749 : decode cL_law 749 = .ok (.aload 4, 2) := by decide +kernel
theorem dL_law_751 : decode cL_law 751 = .ok (.aload 5, 2) := by decide +kernel
theorem dL_law_753 : decode cL_law 753 = .ok (.invokestatic 55, 3) := by decide +kernel
theorem dL_law_756 : decode cL_law 756 = .ok (.istore 17, 2) := by decide +kernel
theorem dL_law_758 : decode cL_law 758 = .ok (.iload 17, 2) := by decide +kernel
theorem dL_law_760 : decode cL_law 760 = .ok (.ifCond .eq 16, 3) := by decide +kernel
theorem dL_law_763 : decode cL_law 763 = .ok (.aload_n 3, 1) := by decide +kernel
theorem dL_law_764 : decode cL_law 764 = .ok (.bipush 7, 2) := by decide +kernel
theorem dL_law_766 : decode cL_law 766 = .ok (.iload 12, 2) := by decide +kernel
theorem dL_law_768 : decode cL_law 768 = .ok (.imul, 1) := by decide +kernel
theorem dL_law_769 : decode cL_law 769 = .ok (.iload 13, 2) := by decide +kernel
theorem dL_law_771 : decode cL_law 771 = .ok (.iadd, 1) := by decide +kernel
theorem dL_law_772 : decode cL_law 772 = .ok (.iaload, 1) := by decide +kernel
theorem dL_law_773 : decode cL_law 773 = .ok (.goto 5, 3) := by decide +kernel
theorem dL_law_776 : decode cL_law 776 = .ok (.bipush (-3), 2) := by decide +kernel
theorem dL_law_778 : decode cL_law 778 = .ok (.istore 14, 2) := by decide +kernel
theorem dL_law_780 : decode cL_law 780 = .ok (.aload_n 3, 1) := by decide +kernel
theorem dL_law_781 : decode cL_law 781 = .ok (.bipush 7, 2) := by decide +kernel
theorem dL_law_783 : decode cL_law 783 = .ok (.iload 12, 2) := by decide +kernel
theorem dL_law_785 : decode cL_law 785 = .ok (.imul, 1) := by decide +kernel
theorem dL_law_786 : decode cL_law 786 = .ok (.iload 13, 2) := by decide +kernel
theorem dL_law_788 : decode cL_law 788 = .ok (.iadd, 1) := by decide +kernel
theorem dL_law_789 : decode cL_law 789 = .ok (.iload 17, 2) := by decide +kernel
theorem dL_law_791 : decode cL_law 791 = .ok (.ifCond .eq 8, 3) := by decide +kernel
theorem dL_law_794 : decode cL_law 794 = .ok (.iload 16, 2) := by decide +kernel
theorem dL_law_796 : decode cL_law 796 = .ok (.goto 13, 3) := by decide +kernel
theorem dL_law_799 : decode cL_law 799 = .ok (.aload_n 3, 1) := by decide +kernel
theorem dL_law_800 : decode cL_law 800 = .ok (.bipush 7, 2) := by decide +kernel
theorem dL_law_802 : decode cL_law 802 = .ok (.iload 12, 2) := by decide +kernel
theorem dL_law_804 : decode cL_law 804 = .ok (.imul, 1) := by decide +kernel
theorem dL_law_805 : decode cL_law 805 = .ok (.iload 13, 2) := by decide +kernel
theorem dL_law_807 : decode cL_law 807 = .ok (.iadd, 1) := by decide +kernel
theorem dL_law_808 : decode cL_law 808 = .ok (.iaload, 1) := by decide +kernel
theorem dL_law_809 : decode cL_law 809 = .ok (.iastore, 1) := by decide +kernel
theorem dL_law_810 : decode cL_law 810 = .ok (.aload_n 1, 1) := by decide +kernel
theorem dL_law_811 : decode cL_law 811 = .ok (.iconst 1, 1) := by decide +kernel
theorem dL_law_812 : decode cL_law 812 = .ok (.iload 12, 2) := by decide +kernel
theorem dL_law_814 : decode cL_law 814 = .ok (.iload 13, 2) := by decide +kernel
theorem dL_law_816 : decode cL_law 816 = .ok (.iload 16, 2) := by decide +kernel
theorem dL_law_818 : decode cL_law 818 = .ok (.invokestatic 128, 3) := by decide +kernel
theorem dL_law_821 : decode cL_law 821 = .ok (.istore 15, 2) := by decide +kernel
theorem dL_law_823 : decode cL_law 823 = .ok (.goto 186, 3) := by decide +kernel
theorem dL_law_826 : decode cL_law 826 = .ok (.iload 11, 2) := by decide +kernel
theorem dL_law_828 : decode cL_law 828 = .ok (.bipush 26, 2) := by decide +kernel
theorem dL_law_830 : decode cL_law 830 = .ok (.if_icmp .ge 151, 3) := by decide +kernel
theorem dL_law_833 : decode cL_law 833 = .ok (.iload 10, 2) := by decide +kernel
theorem dL_law_835 : decode cL_law 835 = .ok (.bipush 11, 2) := by decide +kernel
theorem dL_law_837 : decode cL_law 837 = .ok (.ishr, 1) := by decide +kernel
theorem dL_law_838 : decode cL_law 838 = .ok (.aload 8, 2) := by decide +kernel
theorem dL_law_840 : decode cL_law 840 = .ok (.iconst 0, 1) := by decide +kernel
theorem dL_law_841 : decode cL_law 841 = .ok (.iaload, 1) := by decide +kernel
theorem dL_law_842 : decode cL_law 842 = .ok (.invokestatic 103, 3) := by decide +kernel
theorem dL_law_845 : decode cL_law 845 = .ok (.istore 16, 2) := by decide +kernel
theorem dL_law_847 : decode cL_law 847 = .ok (.iload 12, 2) := by decide +kernel
theorem dL_law_849 : decode cL_law 849 = .ok (.iload 16, 2) := by decide +kernel
theorem dL_law_851 : decode cL_law 851 = .ok (.iload 13, 2) := by decide +kernel
theorem dL_law_853 : decode cL_law 853 = .ok (.aload 6, 2) := by decide +kernel
theorem dL_law_855 : decode cL_law 855 = .ok (.aload_n 2, 1) := by decide +kernel
theorem dL_law_856 : decode cL_law 856 = .ok (.aload_n 3, 1) := by decide +kernel
theorem dL_law_857 : decode cL_law 857 = .ok (.aload 4, 2) := by decide +kernel
theorem dL_law_859 : decode cL_law 859 = .ok (.aload 5, 2) := by decide +kernel
theorem dL_law_861 : decode cL_law 861 = .ok (.invokestatic 112, 3) := by decide +kernel
theorem dL_law_864 : decode cL_law 864 = .ok (.istore 17, 2) := by decide +kernel
theorem dL_law_866 : decode cL_law 866 = .ok (.aload_n 3, 1) := by decide +kernel
theorem dL_law_867 : decode cL_law 867 = .ok (.bipush 7, 2) := by decide +kernel
theorem dL_law_869 : decode cL_law 869 = .ok (.iload 12, 2) := by decide +kernel
theorem dL_law_871 : decode cL_law 871 = .ok (.imul, 1) := by decide +kernel
theorem dL_law_872 : decode cL_law 872 = .ok (.iload 13, 2) := by decide +kernel
theorem dL_law_874 : decode cL_law 874 = .ok (.iadd, 1) := by decide +kernel
theorem dL_law_875 : decode cL_law 875 = .ok (.iaload, 1) := by decide +kernel
theorem dL_law_876 : decode cL_law 876 = .ok (.istore 18, 2) := by decide +kernel
theorem dL_law_878 : decode cL_law 878 = .ok (.aload_n 3, 1) := by decide +kernel
theorem dL_law_879 : decode cL_law 879 = .ok (.bipush 7, 2) := by decide +kernel
theorem dL_law_881 : decode cL_law 881 = .ok (.iload 12, 2) := by decide +kernel
theorem dL_law_883 : decode cL_law 883 = .ok (.imul, 1) := by decide +kernel
theorem dL_law_884 : decode cL_law 884 = .ok (.iload 13, 2) := by decide +kernel
theorem dL_law_886 : decode cL_law 886 = .ok (.iadd, 1) := by decide +kernel
theorem dL_law_887 : decode cL_law 887 = .ok (.iload 17, 2) := by decide +kernel
theorem dL_law_889 : decode cL_law 889 = .ok (.ifCond .eq 16, 3) := by decide +kernel
theorem dL_law_892 : decode cL_law 892 = .ok (.aload_n 3, 1) := by decide +kernel
theorem dL_law_893 : decode cL_law 893 = .ok (.bipush 7, 2) := by decide +kernel
theorem dL_law_895 : decode cL_law 895 = .ok (.iload 16, 2) := by decide +kernel
theorem dL_law_897 : decode cL_law 897 = .ok (.imul, 1) := by decide +kernel
theorem dL_law_898 : decode cL_law 898 = .ok (.iload 13, 2) := by decide +kernel
theorem dL_law_900 : decode cL_law 900 = .ok (.iadd, 1) := by decide +kernel
theorem dL_law_901 : decode cL_law 901 = .ok (.iaload, 1) := by decide +kernel
theorem dL_law_902 : decode cL_law 902 = .ok (.goto 5, 3) := by decide +kernel
theorem dL_law_905 : decode cL_law 905 = .ok (.iload 18, 2) := by decide +kernel
theorem dL_law_907 : decode cL_law 907 = .ok (.iastore, 1) := by decide +kernel
theorem dL_law_908 : decode cL_law 908 = .ok (.aload_n 3, 1) := by decide +kernel
theorem dL_law_909 : decode cL_law 909 = .ok (.bipush 7, 2) := by decide +kernel
theorem dL_law_911 : decode cL_law 911 = .ok (.iload 16, 2) := by decide +kernel
theorem dL_law_913 : decode cL_law 913 = .ok (.imul, 1) := by decide +kernel
theorem dL_law_914 : decode cL_law 914 = .ok (.iload 13, 2) := by decide +kernel
theorem dL_law_916 : decode cL_law 916 = .ok (.iadd, 1) := by decide +kernel
theorem dL_law_917 : decode cL_law 917 = .ok (.iload 17, 2) := by decide +kernel
theorem dL_law_919 : decode cL_law 919 = .ok (.ifCond .eq 8, 3) := by decide +kernel
theorem dL_law_922 : decode cL_law 922 = .ok (.iload 18, 2) := by decide +kernel
theorem dL_law_924 : decode cL_law 924 = .ok (.goto 13, 3) := by decide +kernel
theorem dL_law_927 : decode cL_law 927 = .ok (.aload_n 3, 1) := by decide +kernel
theorem dL_law_928 : decode cL_law 928 = .ok (.bipush 7, 2) := by decide +kernel
theorem dL_law_930 : decode cL_law 930 = .ok (.iload 16, 2) := by decide +kernel
theorem dL_law_932 : decode cL_law 932 = .ok (.imul, 1) := by decide +kernel
theorem dL_law_933 : decode cL_law 933 = .ok (.iload 13, 2) := by decide +kernel
theorem dL_law_935 : decode cL_law 935 = .ok (.iadd, 1) := by decide +kernel
theorem dL_law_936 : decode cL_law 936 = .ok (.iaload, 1) := by decide +kernel
theorem dL_law_937 : decode cL_law 937 = .ok (.iastore, 1) := by decide +kernel
theorem dL_law_938 : decode cL_law 938 = .ok (.iload 17, 2) := by decide +kernel
theorem dL_law_940 : decode cL_law 940 = .ok (.ifCond .eq 21, 3) := by decide +kernel
theorem dL_law_943 : decode cL_law 943 = .ok (.iload 12, 2) := by decide +kernel
theorem dL_law_945 : decode cL_law 945 = .ok (.aload_n 2, 1) := by decide +kernel
theorem dL_law_946 : decode cL_law 946 = .ok (.aload_n 3, 1) := by decide +kernel
theorem dL_law_947 : decode cL_law 947 = .ok (.invokestatic 90, 3) := by decide +kernel
theorem dL_law_950 : decode cL_law 950 = .ok (.iload 16, 2) := by decide +kernel
theorem dL_law_952 : decode cL_law 952 = .ok (.aload_n 2, 1) := by decide +kernel
theorem dL_law_953 : decode cL_law 953 = .ok (.aload_n 3, 1) := by decide +kernel
theorem dL_law_954 : decode cL_law 954 = .ok (.invokestatic 90, 3) := by decide +kernel
theorem dL_law_957 : decode cL_law 957 = .ok (.iadd, 1) := by decide +kernel
theorem dL_law_958 : decode cL_law 958 = .ok (.goto 5, 3) := by decide +kernel
theorem dL_law_961 : decode cL_law 961 = .ok (.bipush (-3), 2) := by decide +kernel
theorem dL_law_963 : decode cL_law 963 = .ok (.istore 14, 2) := by decide +kernel
theorem dL_law_965 : decode cL_law 965 = .ok (.aload_n 1, 1) := by decide +kernel
theorem dL_law_966 : decode cL_law 966 = .ok (.iconst 2, 1) := by decide +kernel
theorem dL_law_967 : decode cL_law 967 = .ok (.iload 12, 2) := by decide +kernel
theorem dL_law_969 : decode cL_law 969 = .ok (.iload 16, 2) := by decide +kernel
theorem dL_law_971 : decode cL_law 971 = .ok (.iload 13, 2) := by decide +kernel
theorem dL_law_973 : decode cL_law 973 = .ok (.invokestatic 128, 3) := by decide +kernel
theorem dL_law_976 : decode cL_law 976 = .ok (.istore 15, 2) := by decide +kernel
theorem dL_law_978 : decode cL_law 978 = .ok (.goto 31, 3) := by decide +kernel
theorem dL_law_981 : decode cL_law 981 = .ok (.iload 11, 2) := by decide +kernel
theorem dL_law_983 : decode cL_law 983 = .ok (.bipush 26, 2) := by decide +kernel
theorem dL_law_985 : decode cL_law 985 = .ok (.if_icmp .ne 24, 3) := by decide +kernel
theorem dL_law_988 : decode cL_law 988 = .ok (.aload_n 2, 1) := by decide +kernel
theorem dL_law_989 : decode cL_law 989 = .ok (.aload_n 3, 1) := by decide +kernel
theorem dL_law_990 : decode cL_law 990 = .ok (.aload 4, 2) := by decide +kernel
theorem dL_law_992 : decode cL_law 992 = .ok (.aload 8, 2) := by decide +kernel
theorem dL_law_994 : decode cL_law 994 = .ok (.invokestatic 155, 3) := by decide +kernel
theorem dL_law_997 : decode cL_law 997 = .ok (.aload 8, 2) := by decide +kernel
theorem dL_law_999 : decode cL_law 999 = .ok (.iconst 1, 1) := by decide +kernel
theorem dL_law_1000 : decode cL_law 1000 = .ok (.iaload, 1) := by decide +kernel
theorem dL_law_1001 : decode cL_law 1001 = .ok (.istore 14, 2) := by decide +kernel
theorem dL_law_1003 : decode cL_law 1003 = .ok (.aload_n 1, 1) := by decide +kernel
theorem dL_law_1004 : decode cL_law 1004 = .ok (.invokevirtual 159, 3) := by decide +kernel
theorem dL_law_1007 : decode cL_law 1007 = .ok (.istore 15, 2) := by decide +kernel
theorem dL_law_1009 : decode cL_law 1009 = .ok (.iload 15, 2) := by decide +kernel
theorem dL_law_1011 : decode cL_law 1011 = .ok (.iload 14, 2) := by decide +kernel
theorem dL_law_1013 : decode cL_law 1013 = .ok (.if_icmp .ne 33, 3) := by decide +kernel
theorem dL_law_1016 : decode cL_law 1016 = .ok (.iload 9, 2) := by decide +kernel
theorem dL_law_1018 : decode cL_law 1018 = .ok (.iconst 2, 1) := by decide +kernel
theorem dL_law_1019 : decode cL_law 1019 = .ok (.irem, 1) := by decide +kernel
theorem dL_law_1020 : decode cL_law 1020 = .ok (.ifCond .ne 28, 3) := by decide +kernel
theorem dL_law_1023 : decode cL_law 1023 = .ok (.aload_n 1, 1) := by decide +kernel
theorem dL_law_1024 : decode cL_law 1024 = .ok (.iload 10, 2) := by decide +kernel
theorem dL_law_1026 : decode cL_law 1026 = .ok (.iconst 4, 1) := by decide +kernel
theorem dL_law_1027 : decode cL_law 1027 = .ok (.ishr, 1) := by decide +kernel
theorem dL_law_1028 : decode cL_law 1028 = .ok (.aload 6, 2) := by decide +kernel
theorem dL_law_1030 : decode cL_law 1030 = .ok (.aload 7, 2) := by decide +kernel
theorem dL_law_1032 : decode cL_law 1032 = .ok (.aload_n 2, 1) := by decide +kernel
theorem dL_law_1033 : decode cL_law 1033 = .ok (.aload_n 3, 1) := by decide +kernel
theorem dL_law_1034 : decode cL_law 1034 = .ok (.aload 4, 2) := by decide +kernel
theorem dL_law_1036 : decode cL_law 1036 = .ok (.aload 5, 2) := by decide +kernel
theorem dL_law_1038 : decode cL_law 1038 = .ok (.aload 8, 2) := by decide +kernel
theorem dL_law_1040 : decode cL_law 1040 = .ok (.invokestatic 162, 3) := by decide +kernel
theorem dL_law_1043 : decode cL_law 1043 = .ok (.ifCond .ne 5, 3) := by decide +kernel
theorem dL_law_1046 : decode cL_law 1046 = .ok (.iconst 0, 1) := by decide +kernel
theorem dL_law_1047 : decode cL_law 1047 = .ok (.ireturn, 1) := by decide +kernel
theorem dL_law_1048 : decode cL_law 1048 = .ok (.iinc 9 1, 3) := by decide +kernel
theorem dL_law_1051 : decode cL_law 1051 = .ok (.goto (-955), 3) := by decide +kernel
theorem dL_law_1054 : decode cL_law 1054 = .ok (.iconst 1, 1) := by decide +kernel
theorem dL_law_1055 : decode cL_law 1055 = .ok (.ireturn, 1) := by decide +kernel
