theorem d_La_law_0 : decode code 0 = .ok (.new 8, 3) := by decide +kernel
theorem d_La_law_3 : decode code 3 = .ok (.dup, 1) := by decide +kernel
theorem d_La_law_4 : decode code 4 = .ok (.invokespecial 44, 3) := by decide +kernel
theorem d_La_law_7 : decode code 7 = .ok (.astore_n 1, 1) := by decide +kernel
theorem d_La_law_8 : decode code 8 = .ok (.new 45, 3) := by decide +kernel
theorem d_La_law_11 : decode code 11 = .ok (.dup, 1) := by decide +kernel
theorem d_La_law_12 : decode code 12 = .ok (.invokespecial 47, 3) := by decide +kernel
theorem d_La_law_15 : decode code 15 = .ok (.astore_n 2, 1) := by decide +kernel
theorem d_La_law_16 : decode code 16 = .ok (.iconst 1, 1) := by decide +kernel
theorem d_La_law_17 : decode code 17 = .ok (.newarray .long, 2) := by decide +kernel
theorem d_La_law_19 : decode code 19 = .ok (.astore_n 3, 1) := by decide +kernel
theorem d_La_law_20 : decode code 20 = .ok (.iconst 0, 1) := by decide +kernel
theorem d_La_law_21 : decode code 21 = .ok (.istore 4, 2) := by decide +kernel
theorem d_La_law_23 : decode code 23 = .ok (.iload 4, 2) := by decide +kernel
theorem d_La_law_25 : decode code 25 = .ok (.aload_n 0, 1) := by decide +kernel
theorem d_La_law_26 : decode code 26 = .ok (.arraylength, 1) := by decide +kernel
theorem d_La_law_27 : decode code 27 = .ok (.bipush 6, 2) := by decide +kernel
theorem d_La_law_29 : decode code 29 = .ok (.isub, 1) := by decide +kernel
theorem d_La_law_30 : decode code 30 = .ok (.if_icmp .gt 601, 3) := by decide +kernel
theorem d_La_law_33 : decode code 33 = .ok (.aload_n 0, 1) := by decide +kernel
theorem d_La_law_34 : decode code 34 = .ok (.iload 4, 2) := by decide +kernel
theorem d_La_law_36 : decode code 36 = .ok (.iaload, 1) := by decide +kernel
theorem d_La_law_37 : decode code 37 = .ok (.bipush 15, 2) := by decide +kernel
theorem d_La_law_39 : decode code 39 = .ok (.iand, 1) := by decide +kernel
theorem d_La_law_40 : decode code 40 = .ok (.tableswitch 585 0 8 #[52, 156, 212, 268, 281, 337, 405, 461, 517], 52) := by decide +kernel
theorem d_La_law_92 : decode code 92 = .ok (.aload_n 1, 1) := by decide +kernel
theorem d_La_law_93 : decode code 93 = .ok (.aload_n 0, 1) := by decide +kernel
theorem d_La_law_94 : decode code 94 = .ok (.iload 4, 2) := by decide +kernel
theorem d_La_law_96 : decode code 96 = .ok (.iconst 1, 1) := by decide +kernel
theorem d_La_law_97 : decode code 97 = .ok (.iadd, 1) := by decide +kernel
theorem d_La_law_98 : decode code 98 = .ok (.iaload, 1) := by decide +kernel
theorem d_La_law_99 : decode code 99 = .ok (.aload_n 0, 1) := by decide +kernel
theorem d_La_law_100 : decode code 100 = .ok (.iload 4, 2) := by decide +kernel
theorem d_La_law_102 : decode code 102 = .ok (.iconst 2, 1) := by decide +kernel
theorem d_La_law_103 : decode code 103 = .ok (.iadd, 1) := by decide +kernel
theorem d_La_law_104 : decode code 104 = .ok (.iaload, 1) := by decide +kernel
theorem d_La_law_105 : decode code 105 = .ok (.aload_n 0, 1) := by decide +kernel
theorem d_La_law_106 : decode code 106 = .ok (.iload 4, 2) := by decide +kernel
theorem d_La_law_108 : decode code 108 = .ok (.iconst 3, 1) := by decide +kernel
theorem d_La_law_109 : decode code 109 = .ok (.iadd, 1) := by decide +kernel
theorem d_La_law_110 : decode code 110 = .ok (.iaload, 1) := by decide +kernel
theorem d_La_law_111 : decode code 111 = .ok (.aload_n 0, 1) := by decide +kernel
theorem d_La_law_112 : decode code 112 = .ok (.iload 4, 2) := by decide +kernel
theorem d_La_law_114 : decode code 114 = .ok (.iconst 4, 1) := by decide +kernel
theorem d_La_law_115 : decode code 115 = .ok (.iadd, 1) := by decide +kernel
theorem d_La_law_116 : decode code 116 = .ok (.iaload, 1) := by decide +kernel
theorem d_La_law_117 : decode code 117 = .ok (.aload_n 0, 1) := by decide +kernel
theorem d_La_law_118 : decode code 118 = .ok (.iload 4, 2) := by decide +kernel
theorem d_La_law_120 : decode code 120 = .ok (.iconst 5, 1) := by decide +kernel
theorem d_La_law_121 : decode code 121 = .ok (.iadd, 1) := by decide +kernel
theorem d_La_law_122 : decode code 122 = .ok (.iaload, 1) := by decide +kernel
theorem d_La_law_123 : decode code 123 = .ok (.aload_n 3, 1) := by decide +kernel
theorem d_La_law_124 : decode code 124 = .ok (.invokestatic 48, 3) := by decide +kernel
theorem d_La_law_127 : decode code 127 = .ok (.istore 5, 2) := by decide +kernel
theorem d_La_law_129 : decode code 129 = .ok (.aload_n 2, 1) := by decide +kernel
theorem d_La_law_130 : decode code 130 = .ok (.aload_n 0, 1) := by decide +kernel
theorem d_La_law_131 : decode code 131 = .ok (.iload 4, 2) := by decide +kernel
theorem d_La_law_133 : decode code 133 = .ok (.iconst 1, 1) := by decide +kernel
theorem d_La_law_134 : decode code 134 = .ok (.iadd, 1) := by decide +kernel
theorem d_La_law_135 : decode code 135 = .ok (.iaload, 1) := by decide +kernel
theorem d_La_law_136 : decode code 136 = .ok (.aload_n 0, 1) := by decide +kernel
theorem d_La_law_137 : decode code 137 = .ok (.iload 4, 2) := by decide +kernel
theorem d_La_law_139 : decode code 139 = .ok (.iconst 2, 1) := by decide +kernel
theorem d_La_law_140 : decode code 140 = .ok (.iadd, 1) := by decide +kernel
theorem d_La_law_141 : decode code 141 = .ok (.iaload, 1) := by decide +kernel
theorem d_La_law_142 : decode code 142 = .ok (.aload_n 0, 1) := by decide +kernel
theorem d_La_law_143 : decode code 143 = .ok (.iload 4, 2) := by decide +kernel
theorem d_La_law_145 : decode code 145 = .ok (.iconst 3, 1) := by decide +kernel
theorem d_La_law_146 : decode code 146 = .ok (.iadd, 1) := by decide +kernel
theorem d_La_law_147 : decode code 147 = .ok (.iaload, 1) := by decide +kernel
theorem d_La_law_148 : decode code 148 = .ok (.aload_n 0, 1) := by decide +kernel
theorem d_La_law_149 : decode code 149 = .ok (.iload 4, 2) := by decide +kernel
theorem d_La_law_151 : decode code 151 = .ok (.iconst 4, 1) := by decide +kernel
theorem d_La_law_152 : decode code 152 = .ok (.iadd, 1) := by decide +kernel
theorem d_La_law_153 : decode code 153 = .ok (.iaload, 1) := by decide +kernel
theorem d_La_law_154 : decode code 154 = .ok (.aload_n 0, 1) := by decide +kernel
theorem d_La_law_155 : decode code 155 = .ok (.iload 4, 2) := by decide +kernel
theorem d_La_law_157 : decode code 157 = .ok (.iconst 5, 1) := by decide +kernel
theorem d_La_law_158 : decode code 158 = .ok (.iadd, 1) := by decide +kernel
theorem d_La_law_159 : decode code 159 = .ok (.iaload, 1) := by decide +kernel
theorem d_La_law_160 : decode code 160 = .ok (.invokevirtual 53, 3) := by decide +kernel
theorem d_La_law_163 : decode code 163 = .ok (.istore 6, 2) := by decide +kernel
theorem d_La_law_165 : decode code 165 = .ok (.aload_n 2, 1) := by decide +kernel
theorem d_La_law_166 : decode code 166 = .ok (.invokevirtual 54, 3) := by decide +kernel
theorem d_La_law_169 : decode code 169 = .ok (.iload 5, 2) := by decide +kernel
theorem d_La_law_171 : decode code 171 = .ok (.if_icmp .eq 5, 3) := by decide +kernel
theorem d_La_law_174 : decode code 174 = .ok (.iconst 0, 1) := by decide +kernel
theorem d_La_law_175 : decode code 175 = .ok (.ireturn, 1) := by decide +kernel
theorem d_La_law_176 : decode code 176 = .ok (.iload 5, 2) := by decide +kernel
theorem d_La_law_178 : decode code 178 = .ok (.ifCond .ne 15, 3) := by decide +kernel
theorem d_La_law_181 : decode code 181 = .ok (.aload_n 3, 1) := by decide +kernel
theorem d_La_law_182 : decode code 182 = .ok (.iconst 0, 1) := by decide +kernel
theorem d_La_law_183 : decode code 183 = .ok (.laload, 1) := by decide +kernel
theorem d_La_law_184 : decode code 184 = .ok (.iload 6, 2) := by decide +kernel
theorem d_La_law_186 : decode code 186 = .ok (.i2l, 1) := by decide +kernel
theorem d_La_law_187 : decode code 187 = .ok (.lcmp, 1) := by decide +kernel
theorem d_La_law_188 : decode code 188 = .ok (.ifCond .eq 5, 3) := by decide +kernel
theorem d_La_law_191 : decode code 191 = .ok (.iconst 0, 1) := by decide +kernel
theorem d_La_law_192 : decode code 192 = .ok (.ireturn, 1) := by decide +kernel
theorem d_La_law_193 : decode code 193 = .ok (.goto 432, 3) := by decide +kernel
theorem d_La_law_196 : decode code 196 = .ok (.aload_n 1, 1) := by decide +kernel
theorem d_La_law_197 : decode code 197 = .ok (.aload_n 0, 1) := by decide +kernel
theorem d_La_law_198 : decode code 198 = .ok (.iload 4, 2) := by decide +kernel
theorem d_La_law_200 : decode code 200 = .ok (.iconst 1, 1) := by decide +kernel
theorem d_La_law_201 : decode code 201 = .ok (.iadd, 1) := by decide +kernel
theorem d_La_law_202 : decode code 202 = .ok (.iaload, 1) := by decide +kernel
theorem d_La_law_203 : decode code 203 = .ok (.aload_n 3, 1) := by decide +kernel
theorem d_La_law_204 : decode code 204 = .ok (.invokestatic 58, 3) := by decide +kernel
theorem d_La_law_207 : decode code 207 = .ok (.istore 5, 2) := by decide +kernel
theorem d_La_law_209 : decode code 209 = .ok (.aload_n 2, 1) := by decide +kernel
theorem d_La_law_210 : decode code 210 = .ok (.aload_n 0, 1) := by decide +kernel
theorem d_La_law_211 : decode code 211 = .ok (.iload 4, 2) := by decide +kernel
theorem d_La_law_213 : decode code 213 = .ok (.iconst 1, 1) := by decide +kernel
theorem d_La_law_214 : decode code 214 = .ok (.iadd, 1) := by decide +kernel
theorem d_La_law_215 : decode code 215 = .ok (.iaload, 1) := by decide +kernel
theorem d_La_law_216 : decode code 216 = .ok (.invokevirtual 61, 3) := by decide +kernel
theorem d_La_law_219 : decode code 219 = .ok (.istore 6, 2) := by decide +kernel
theorem d_La_law_221 : decode code 221 = .ok (.aload_n 2, 1) := by decide +kernel
theorem d_La_law_222 : decode code 222 = .ok (.invokevirtual 54, 3) := by decide +kernel
theorem d_La_law_225 : decode code 225 = .ok (.iload 5, 2) := by decide +kernel
theorem d_La_law_227 : decode code 227 = .ok (.if_icmp .eq 5, 3) := by decide +kernel
theorem d_La_law_230 : decode code 230 = .ok (.iconst 0, 1) := by decide +kernel
theorem d_La_law_231 : decode code 231 = .ok (.ireturn, 1) := by decide +kernel
theorem d_La_law_232 : decode code 232 = .ok (.iload 5, 2) := by decide +kernel
theorem d_La_law_234 : decode code 234 = .ok (.ifCond .ne 15, 3) := by decide +kernel
theorem d_La_law_237 : decode code 237 = .ok (.aload_n 3, 1) := by decide +kernel
theorem d_La_law_238 : decode code 238 = .ok (.iconst 0, 1) := by decide +kernel
theorem d_La_law_239 : decode code 239 = .ok (.laload, 1) := by decide +kernel
theorem d_La_law_240 : decode code 240 = .ok (.iload 6, 2) := by decide +kernel
theorem d_La_law_242 : decode code 242 = .ok (.i2l, 1) := by decide +kernel
theorem d_La_law_243 : decode code 243 = .ok (.lcmp, 1) := by decide +kernel
theorem d_La_law_244 : decode code 244 = .ok (.ifCond .eq 5, 3) := by decide +kernel
theorem d_La_law_247 : decode code 247 = .ok (.iconst 0, 1) := by decide +kernel
theorem d_La_law_248 : decode code 248 = .ok (.ireturn, 1) := by decide +kernel
theorem d_La_law_249 : decode code 249 = .ok (.goto 376, 3) := by decide +kernel
theorem d_La_law_252 : decode code 252 = .ok (.aload_n 1, 1) := by decide +kernel
theorem d_La_law_253 : decode code 253 = .ok (.aload_n 0, 1) := by decide +kernel
theorem d_La_law_254 : decode code 254 = .ok (.iload 4, 2) := by decide +kernel
theorem d_La_law_256 : decode code 256 = .ok (.iconst 1, 1) := by decide +kernel
theorem d_La_law_257 : decode code 257 = .ok (.iadd, 1) := by decide +kernel
theorem d_La_law_258 : decode code 258 = .ok (.iaload, 1) := by decide +kernel
theorem d_La_law_259 : decode code 259 = .ok (.aload_n 3, 1) := by decide +kernel
theorem d_La_law_260 : decode code 260 = .ok (.invokestatic 62, 3) := by decide +kernel
theorem d_La_law_263 : decode code 263 = .ok (.istore 5, 2) := by decide +kernel
theorem d_La_law_265 : decode code 265 = .ok (.aload_n 2, 1) := by decide +kernel
theorem d_La_law_266 : decode code 266 = .ok (.aload_n 0, 1) := by decide +kernel
theorem d_La_law_267 : decode code 267 = .ok (.iload 4, 2) := by decide +kernel
theorem d_La_law_269 : decode code 269 = .ok (.iconst 1, 1) := by decide +kernel
theorem d_La_law_270 : decode code 270 = .ok (.iadd, 1) := by decide +kernel
theorem d_La_law_271 : decode code 271 = .ok (.iaload, 1) := by decide +kernel
theorem d_La_law_272 : decode code 272 = .ok (.invokevirtual 64, 3) := by decide +kernel
theorem d_La_law_275 : decode code 275 = .ok (.istore 6, 2) := by decide +kernel
theorem d_La_law_277 : decode code 277 = .ok (.aload_n 2, 1) := by decide +kernel
theorem d_La_law_278 : decode code 278 = .ok (.invokevirtual 54, 3) := by decide +kernel
theorem d_La_law_281 : decode code 281 = .ok (.iload 5, 2) := by decide +kernel
theorem d_La_law_283 : decode code 283 = .ok (.if_icmp .eq 5, 3) := by decide +kernel
theorem d_La_law_286 : decode code 286 = .ok (.iconst 0, 1) := by decide +kernel
theorem d_La_law_287 : decode code 287 = .ok (.ireturn, 1) := by decide +kernel
theorem d_La_law_288 : decode code 288 = .ok (.iload 5, 2) := by decide +kernel
theorem d_La_law_290 : decode code 290 = .ok (.ifCond .ne 15, 3) := by decide +kernel
theorem d_La_law_293 : decode code 293 = .ok (.aload_n 3, 1) := by decide +kernel
theorem d_La_law_294 : decode code 294 = .ok (.iconst 0, 1) := by decide +kernel
theorem d_La_law_295 : decode code 295 = .ok (.laload, 1) := by decide +kernel
theorem d_La_law_296 : decode code 296 = .ok (.iload 6, 2) := by decide +kernel
theorem d_La_law_298 : decode code 298 = .ok (.i2l, 1) := by decide +kernel
theorem d_La_law_299 : decode code 299 = .ok (.lcmp, 1) := by decide +kernel
theorem d_La_law_300 : decode code 300 = .ok (.ifCond .eq 5, 3) := by decide +kernel
theorem d_La_law_303 : decode code 303 = .ok (.iconst 0, 1) := by decide +kernel
theorem d_La_law_304 : decode code 304 = .ok (.ireturn, 1) := by decide +kernel
theorem d_La_law_305 : decode code 305 = .ok (.goto 320, 3) := by decide +kernel
theorem d_La_law_308 : decode code 308 = .ok (.aload_n 1, 1) := by decide +kernel
theorem d_La_law_309 : decode code 309 = .ok (.invokevirtual 65, 3) := by decide +kernel
theorem d_La_law_312 : decode code 312 = .ok (.aload_n 2, 1) := by decide +kernel
theorem d_La_law_313 : decode code 313 = .ok (.invokevirtual 68, 3) := by decide +kernel
theorem d_La_law_316 : decode code 316 = .ok (.if_icmp .eq 309, 3) := by decide +kernel
theorem d_La_law_319 : decode code 319 = .ok (.iconst 0, 1) := by decide +kernel
theorem d_La_law_320 : decode code 320 = .ok (.ireturn, 1) := by decide +kernel
theorem d_La_law_321 : decode code 321 = .ok (.aload_n 1, 1) := by decide +kernel
theorem d_La_law_322 : decode code 322 = .ok (.aload_n 0, 1) := by decide +kernel
theorem d_La_law_323 : decode code 323 = .ok (.iload 4, 2) := by decide +kernel
theorem d_La_law_325 : decode code 325 = .ok (.iconst 1, 1) := by decide +kernel
theorem d_La_law_326 : decode code 326 = .ok (.iadd, 1) := by decide +kernel
theorem d_La_law_327 : decode code 327 = .ok (.iaload, 1) := by decide +kernel
theorem d_La_law_328 : decode code 328 = .ok (.aload_n 3, 1) := by decide +kernel
theorem d_La_law_329 : decode code 329 = .ok (.invokestatic 69, 3) := by decide +kernel
theorem d_La_law_332 : decode code 332 = .ok (.istore 5, 2) := by decide +kernel
theorem d_La_law_334 : decode code 334 = .ok (.aload_n 2, 1) := by decide +kernel
theorem d_La_law_335 : decode code 335 = .ok (.aload_n 0, 1) := by decide +kernel
theorem d_La_law_336 : decode code 336 = .ok (.iload 4, 2) := by decide +kernel
theorem d_La_law_338 : decode code 338 = .ok (.iconst 1, 1) := by decide +kernel
theorem d_La_law_339 : decode code 339 = .ok (.iadd, 1) := by decide +kernel
theorem d_La_law_340 : decode code 340 = .ok (.iaload, 1) := by decide +kernel
theorem d_La_law_341 : decode code 341 = .ok (.invokevirtual 71, 3) := by decide +kernel
theorem d_La_law_344 : decode code 344 = .ok (.istore 6, 2) := by decide +kernel
theorem d_La_law_346 : decode code 346 = .ok (.aload_n 2, 1) := by decide +kernel
theorem d_La_law_347 : decode code 347 = .ok (.invokevirtual 54, 3) := by decide +kernel
theorem d_La_law_350 : decode code 350 = .ok (.iload 5, 2) := by decide +kernel
theorem d_La_law_352 : decode code 352 = .ok (.if_icmp .eq 5, 3) := by decide +kernel
theorem d_La_law_355 : decode code 355 = .ok (.iconst 0, 1) := by decide +kernel
theorem d_La_law_356 : decode code 356 = .ok (.ireturn, 1) := by decide +kernel
theorem d_La_law_357 : decode code 357 = .ok (.iload 5, 2) := by decide +kernel
theorem d_La_law_359 : decode code 359 = .ok (.ifCond .ne 15, 3) := by decide +kernel
theorem d_La_law_362 : decode code 362 = .ok (.aload_n 3, 1) := by decide +kernel
theorem d_La_law_363 : decode code 363 = .ok (.iconst 0, 1) := by decide +kernel
theorem d_La_law_364 : decode code 364 = .ok (.laload, 1) := by decide +kernel
theorem d_La_law_365 : decode code 365 = .ok (.iload 6, 2) := by decide +kernel
theorem d_La_law_367 : decode code 367 = .ok (.i2l, 1) := by decide +kernel
theorem d_La_law_368 : decode code 368 = .ok (.lcmp, 1) := by decide +kernel
theorem d_La_law_369 : decode code 369 = .ok (.ifCond .eq 5, 3) := by decide +kernel
theorem d_La_law_372 : decode code 372 = .ok (.iconst 0, 1) := by decide +kernel
theorem d_La_law_373 : decode code 373 = .ok (.ireturn, 1) := by decide +kernel
theorem d_La_law_374 : decode code 374 = .ok (.goto 251, 3) := by decide +kernel
theorem d_La_law_377 : decode code 377 = .ok (.aload_n 1, 1) := by decide +kernel
theorem d_La_law_378 : decode code 378 = .ok (.aload_n 0, 1) := by decide +kernel
theorem d_La_law_379 : decode code 379 = .ok (.iload 4, 2) := by decide +kernel
theorem d_La_law_381 : decode code 381 = .ok (.iconst 1, 1) := by decide +kernel
theorem d_La_law_382 : decode code 382 = .ok (.iadd, 1) := by decide +kernel
theorem d_La_law_383 : decode code 383 = .ok (.iaload, 1) := by decide +kernel
theorem d_La_law_384 : decode code 384 = .ok (.aload_n 0, 1) := by decide +kernel
theorem d_La_law_385 : decode code 385 = .ok (.iload 4, 2) := by decide +kernel
theorem d_La_law_387 : decode code 387 = .ok (.iconst 2, 1) := by decide +kernel
theorem d_La_law_388 : decode code 388 = .ok (.iadd, 1) := by decide +kernel
theorem d_La_law_389 : decode code 389 = .ok (.iaload, 1) := by decide +kernel
theorem d_La_law_390 : decode code 390 = .ok (.aload_n 3, 1) := by decide +kernel
theorem d_La_law_391 : decode code 391 = .ok (.invokestatic 72, 3) := by decide +kernel
theorem d_La_law_394 : decode code 394 = .ok (.istore 5, 2) := by decide +kernel
theorem d_La_law_396 : decode code 396 = .ok (.aload_n 2, 1) := by decide +kernel
theorem d_La_law_397 : decode code 397 = .ok (.aload_n 0, 1) := by decide +kernel
theorem d_La_law_398 : decode code 398 = .ok (.iload 4, 2) := by decide +kernel
theorem d_La_law_400 : decode code 400 = .ok (.iconst 1, 1) := by decide +kernel
theorem d_La_law_401 : decode code 401 = .ok (.iadd, 1) := by decide +kernel
theorem d_La_law_402 : decode code 402 = .ok (.iaload, 1) := by decide +kernel
theorem d_La_law_403 : decode code 403 = .ok (.aload_n 0, 1) := by decide +kernel
theorem d_La_law_404 : decode code 404 = .ok (.iload 4, 2) := by decide +kernel
theorem d_La_law_406 : decode code 406 = .ok (.iconst 2, 1) := by decide +kernel
theorem d_La_law_407 : decode code 407 = .ok (.iadd, 1) := by decide +kernel
theorem d_La_law_408 : decode code 408 = .ok (.iaload, 1) := by decide +kernel
theorem d_La_law_409 : decode code 409 = .ok (.invokevirtual 75, 3) := by decide +kernel
theorem d_La_law_412 : decode code 412 = .ok (.istore 6, 2) := by decide +kernel
theorem d_La_law_414 : decode code 414 = .ok (.aload_n 2, 1) := by decide +kernel
theorem d_La_law_415 : decode code 415 = .ok (.invokevirtual 54, 3) := by decide +kernel
theorem d_La_law_418 : decode code 418 = .ok (.iload 5, 2) := by decide +kernel
theorem d_La_law_420 : decode code 420 = .ok (.if_icmp .eq 5, 3) := by decide +kernel
theorem d_La_law_423 : decode code 423 = .ok (.iconst 0, 1) := by decide +kernel
theorem d_La_law_424 : decode code 424 = .ok (.ireturn, 1) := by decide +kernel
theorem d_La_law_425 : decode code 425 = .ok (.iload 5, 2) := by decide +kernel
theorem d_La_law_427 : decode code 427 = .ok (.ifCond .ne 15, 3) := by decide +kernel
theorem d_La_law_430 : decode code 430 = .ok (.aload_n 3, 1) := by decide +kernel
theorem d_La_law_431 : decode code 431 = .ok (.iconst 0, 1) := by decide +kernel
theorem d_La_law_432 : decode code 432 = .ok (.laload, 1) := by decide +kernel
theorem d_La_law_433 : decode code 433 = .ok (.iload 6, 2) := by decide +kernel
theorem d_La_law_435 : decode code 435 = .ok (.i2l, 1) := by decide +kernel
theorem d_La_law_436 : decode code 436 = .ok (.lcmp, 1) := by decide +kernel
theorem d_La_law_437 : decode code 437 = .ok (.ifCond .eq 5, 3) := by decide +kernel
theorem d_La_law_440 : decode code 440 = .ok (.iconst 0, 1) := by decide +kernel
theorem d_La_law_441 : decode code 441 = .ok (.ireturn, 1) := by decide +kernel
theorem d_La_law_442 : decode code 442 = .ok (.goto 183, 3) := by decide +kernel
theorem d_La_law_445 : decode code 445 = .ok (.aload_n 1, 1) := by decide +kernel
theorem d_La_law_446 : decode code 446 = .ok (.aload_n 0, 1) := by decide +kernel
theorem d_La_law_447 : decode code 447 = .ok (.iload 4, 2) := by decide +kernel
theorem d_La_law_449 : decode code 449 = .ok (.iconst 1, 1) := by decide +kernel
theorem d_La_law_450 : decode code 450 = .ok (.iadd, 1) := by decide +kernel
theorem d_La_law_451 : decode code 451 = .ok (.iaload, 1) := by decide +kernel
theorem d_La_law_452 : decode code 452 = .ok (.aload_n 3, 1) := by decide +kernel
theorem d_La_law_453 : decode code 453 = .ok (.invokestatic 76, 3) := by decide +kernel
theorem d_La_law_456 : decode code 456 = .ok (.istore 5, 2) := by decide +kernel
theorem d_La_law_458 : decode code 458 = .ok (.aload_n 2, 1) := by decide +kernel
theorem d_La_law_459 : decode code 459 = .ok (.aload_n 0, 1) := by decide +kernel
theorem d_La_law_460 : decode code 460 = .ok (.iload 4, 2) := by decide +kernel
theorem d_La_law_462 : decode code 462 = .ok (.iconst 1, 1) := by decide +kernel
theorem d_La_law_463 : decode code 463 = .ok (.iadd, 1) := by decide +kernel
theorem d_La_law_464 : decode code 464 = .ok (.iaload, 1) := by decide +kernel
theorem d_La_law_465 : decode code 465 = .ok (.invokevirtual 78, 3) := by decide +kernel
theorem d_La_law_468 : decode code 468 = .ok (.istore 6, 2) := by decide +kernel
theorem d_La_law_470 : decode code 470 = .ok (.aload_n 2, 1) := by decide +kernel
theorem d_La_law_471 : decode code 471 = .ok (.invokevirtual 54, 3) := by decide +kernel
theorem d_La_law_474 : decode code 474 = .ok (.iload 5, 2) := by decide +kernel
theorem d_La_law_476 : decode code 476 = .ok (.if_icmp .eq 5, 3) := by decide +kernel
theorem d_La_law_479 : decode code 479 = .ok (.iconst 0, 1) := by decide +kernel
theorem d_La_law_480 : decode code 480 = .ok (.ireturn, 1) := by decide +kernel
theorem d_La_law_481 : decode code 481 = .ok (.iload 5, 2) := by decide +kernel
theorem d_La_law_483 : decode code 483 = .ok (.ifCond .ne 15, 3) := by decide +kernel
theorem d_La_law_486 : decode code 486 = .ok (.aload_n 3, 1) := by decide +kernel
theorem d_La_law_487 : decode code 487 = .ok (.iconst 0, 1) := by decide +kernel
theorem d_La_law_488 : decode code 488 = .ok (.laload, 1) := by decide +kernel
theorem d_La_law_489 : decode code 489 = .ok (.iload 6, 2) := by decide +kernel
theorem d_La_law_491 : decode code 491 = .ok (.i2l, 1) := by decide +kernel
theorem d_La_law_492 : decode code 492 = .ok (.lcmp, 1) := by decide +kernel
theorem d_La_law_493 : decode code 493 = .ok (.ifCond .eq 5, 3) := by decide +kernel
theorem d_La_law_496 : decode code 496 = .ok (.iconst 0, 1) := by decide +kernel
theorem d_La_law_497 : decode code 497 = .ok (.ireturn, 1) := by decide +kernel
theorem d_La_law_498 : decode code 498 = .ok (.goto 127, 3) := by decide +kernel
theorem d_La_law_501 : decode code 501 = .ok (.aload_n 1, 1) := by decide +kernel
theorem d_La_law_502 : decode code 502 = .ok (.aload_n 0, 1) := by decide +kernel
theorem d_La_law_503 : decode code 503 = .ok (.iload 4, 2) := by decide +kernel
theorem d_La_law_505 : decode code 505 = .ok (.iconst 1, 1) := by decide +kernel
theorem d_La_law_506 : decode code 506 = .ok (.iadd, 1) := by decide +kernel
theorem d_La_law_507 : decode code 507 = .ok (.iaload, 1) := by decide +kernel
theorem d_La_law_508 : decode code 508 = .ok (.aload_n 3, 1) := by decide +kernel
theorem d_La_law_509 : decode code 509 = .ok (.invokestatic 79, 3) := by decide +kernel
theorem d_La_law_512 : decode code 512 = .ok (.istore 5, 2) := by decide +kernel
theorem d_La_law_514 : decode code 514 = .ok (.aload_n 2, 1) := by decide +kernel
theorem d_La_law_515 : decode code 515 = .ok (.aload_n 0, 1) := by decide +kernel
theorem d_La_law_516 : decode code 516 = .ok (.iload 4, 2) := by decide +kernel
theorem d_La_law_518 : decode code 518 = .ok (.iconst 1, 1) := by decide +kernel
theorem d_La_law_519 : decode code 519 = .ok (.iadd, 1) := by decide +kernel
theorem d_La_law_520 : decode code 520 = .ok (.iaload, 1) := by decide +kernel
theorem d_La_law_521 : decode code 521 = .ok (.invokevirtual 81, 3) := by decide +kernel
theorem d_La_law_524 : decode code 524 = .ok (.istore 6, 2) := by decide +kernel
theorem d_La_law_526 : decode code 526 = .ok (.aload_n 2, 1) := by decide +kernel
theorem d_La_law_527 : decode code 527 = .ok (.invokevirtual 54, 3) := by decide +kernel
theorem d_La_law_530 : decode code 530 = .ok (.iload 5, 2) := by decide +kernel
theorem d_La_law_532 : decode code 532 = .ok (.if_icmp .eq 5, 3) := by decide +kernel
theorem d_La_law_535 : decode code 535 = .ok (.iconst 0, 1) := by decide +kernel
theorem d_La_law_536 : decode code 536 = .ok (.ireturn, 1) := by decide +kernel
theorem d_La_law_537 : decode code 537 = .ok (.iload 5, 2) := by decide +kernel
theorem d_La_law_539 : decode code 539 = .ok (.ifCond .ne 15, 3) := by decide +kernel
theorem d_La_law_542 : decode code 542 = .ok (.aload_n 3, 1) := by decide +kernel
theorem d_La_law_543 : decode code 543 = .ok (.iconst 0, 1) := by decide +kernel
theorem d_La_law_544 : decode code 544 = .ok (.laload, 1) := by decide +kernel
theorem d_La_law_545 : decode code 545 = .ok (.iload 6, 2) := by decide +kernel
theorem d_La_law_547 : decode code 547 = .ok (.i2l, 1) := by decide +kernel
theorem d_La_law_548 : decode code 548 = .ok (.lcmp, 1) := by decide +kernel
theorem d_La_law_549 : decode code 549 = .ok (.ifCond .eq 5, 3) := by decide +kernel
theorem d_La_law_552 : decode code 552 = .ok (.iconst 0, 1) := by decide +kernel
theorem d_La_law_553 : decode code 553 = .ok (.ireturn, 1) := by decide +kernel
theorem d_La_law_554 : decode code 554 = .ok (.goto 71, 3) := by decide +kernel
theorem d_La_law_557 : decode code 557 = .ok (.aload_n 1, 1) := by decide +kernel
theorem d_La_law_558 : decode code 558 = .ok (.aload_n 0, 1) := by decide +kernel
theorem d_La_law_559 : decode code 559 = .ok (.iload 4, 2) := by decide +kernel
theorem d_La_law_561 : decode code 561 = .ok (.iconst 1, 1) := by decide +kernel
theorem d_La_law_562 : decode code 562 = .ok (.iadd, 1) := by decide +kernel
theorem d_La_law_563 : decode code 563 = .ok (.iaload, 1) := by decide +kernel
theorem d_La_law_564 : decode code 564 = .ok (.aload_n 0, 1) := by decide +kernel
theorem d_La_law_565 : decode code 565 = .ok (.iload 4, 2) := by decide +kernel
theorem d_La_law_567 : decode code 567 = .ok (.iconst 2, 1) := by decide +kernel
theorem d_La_law_568 : decode code 568 = .ok (.iadd, 1) := by decide +kernel
theorem d_La_law_569 : decode code 569 = .ok (.iaload, 1) := by decide +kernel
theorem d_La_law_570 : decode code 570 = .ok (.aload_n 3, 1) := by decide +kernel
theorem d_La_law_571 : decode code 571 = .ok (.invokestatic 82, 3) := by decide +kernel
theorem d_La_law_574 : decode code 574 = .ok (.istore 5, 2) := by decide +kernel
theorem d_La_law_576 : decode code 576 = .ok (.aload_n 2, 1) := by decide +kernel
theorem d_La_law_577 : decode code 577 = .ok (.aload_n 0, 1) := by decide +kernel
theorem d_La_law_578 : decode code 578 = .ok (.iload 4, 2) := by decide +kernel
theorem d_La_law_580 : decode code 580 = .ok (.iconst 1, 1) := by decide +kernel
theorem d_La_law_581 : decode code 581 = .ok (.iadd, 1) := by decide +kernel
theorem d_La_law_582 : decode code 582 = .ok (.iaload, 1) := by decide +kernel
theorem d_La_law_583 : decode code 583 = .ok (.aload_n 0, 1) := by decide +kernel
theorem d_La_law_584 : decode code 584 = .ok (.iload 4, 2) := by decide +kernel
theorem d_La_law_586 : decode code 586 = .ok (.iconst 2, 1) := by decide +kernel
theorem d_La_law_587 : decode code 587 = .ok (.iadd, 1) := by decide +kernel
theorem d_La_law_588 : decode code 588 = .ok (.iaload, 1) := by decide +kernel
theorem d_La_law_589 : decode code 589 = .ok (.invokevirtual 84, 3) := by decide +kernel
theorem d_La_law_592 : decode code 592 = .ok (.istore 6, 2) := by decide +kernel
theorem d_La_law_594 : decode code 594 = .ok (.aload_n 2, 1) := by decide +kernel
theorem d_La_law_595 : decode code 595 = .ok (.invokevirtual 54, 3) := by decide +kernel
theorem d_La_law_598 : decode code 598 = .ok (.iload 5, 2) := by decide +kernel
theorem d_La_law_600 : decode code 600 = .ok (.if_icmp .eq 5, 3) := by decide +kernel
theorem d_La_law_603 : decode code 603 = .ok (.iconst 0, 1) := by decide +kernel
theorem d_La_law_604 : decode code 604 = .ok (.ireturn, 1) := by decide +kernel
theorem d_La_law_605 : decode code 605 = .ok (.iload 5, 2) := by decide +kernel
theorem d_La_law_607 : decode code 607 = .ok (.ifCond .ne 15, 3) := by decide +kernel
theorem d_La_law_610 : decode code 610 = .ok (.aload_n 3, 1) := by decide +kernel
theorem d_La_law_611 : decode code 611 = .ok (.iconst 0, 1) := by decide +kernel
theorem d_La_law_612 : decode code 612 = .ok (.laload, 1) := by decide +kernel
theorem d_La_law_613 : decode code 613 = .ok (.iload 6, 2) := by decide +kernel
theorem d_La_law_615 : decode code 615 = .ok (.i2l, 1) := by decide +kernel
theorem d_La_law_616 : decode code 616 = .ok (.lcmp, 1) := by decide +kernel
theorem d_La_law_617 : decode code 617 = .ok (.ifCond .eq 5, 3) := by decide +kernel
theorem d_La_law_620 : decode code 620 = .ok (.iconst 0, 1) := by decide +kernel
theorem d_La_law_621 : decode code 621 = .ok (.ireturn, 1) := by decide +kernel
theorem d_La_law_622 : decode code 622 = .ok (.goto 3, 3) := by decide +kernel
theorem d_La_law_625 : decode code 625 = .ok (.iinc 4 6, 3) := by decide +kernel
theorem d_La_law_628 : decode code 628 = .ok (.goto (-605), 3) := by decide +kernel
theorem d_La_law_631 : decode code 631 = .ok (.iconst 1, 1) := by decide +kernel
theorem d_La_law_632 : decode code 632 = .ok (.ireturn, 1) := by decide +kernel

theorem lr_feed (l : Launch) {E : mp_E} {M : mp_M} {h out : Nat} {R : Nat → Nat} {fo : Nat → Int64} {ld lr : Nat} {gd gr : Nat → Int32} {zd zr : List am_T} {thr : Int32} (q : LwS E M h out R fo ld gd zd lr thr gr zr) (a b c d e : Int32) : mp_Cr l m_Mo_feed E M 2 0 0 [.ref (R 0), .int a, .int b, .int c, .int d, .int e] (fun v N => (lr ≤ 980 ∧ v = some (.int (nI (lr + 20))) ∧ LwS E N h out R fo ld gd zd (lr + 20) (nI 0) (ap_5 gr lr a b c d e) zr) ∨ ((980 < lr) ∧ v = some (.int (nI 0)) ∧ LwS E N h out R fo ld gd zd lr (nI 1) gr zr)) :=
  q.ref (fun F hF => rk_feed l hF a b c d e) fun v NF N hp hk => by
    rcases hp with ⟨e0_, ev, es⟩ | ⟨z1, z2, z3⟩
    · exact Or.inl ⟨e0_, ev, hk _ _ _ _ es⟩
    · exact Or.inr ⟨z1, z2, hk _ _ _ _ z3⟩
theorem lr_end (l : Launch) {E : mp_E} {M : mp_M} {h out : Nat} {R : Nat → Nat} {fo : Nat → Int64} {ld lr : Nat} {gd gr : Nat → Int32} {zd zr : List am_T} {thr : Int32} (q : LwS E M h out R fo ld gd zd lr thr gr zr) (i : Int32) : mp_Cr l m_Mo_end E M 2 0 0 [.ref (R 0), .int i] (fun v N => (∃ j, j ≤ lr ∧ i = nI j ∧ v = some (.int (nI j)) ∧ LwS E N h out R fo ld gd zd j (nI 0) gr zr) ∨ ((¬ ∃ j, j ≤ lr ∧ i = nI j) ∧ v = some (.int (nI 0)) ∧ LwS E N h out R fo ld gd zd lr (nI 1) gr zr)) :=
  q.ref (fun F hF => rk_end l hF i) fun v NF N hp hk => by
    rcases hp with ⟨j, e0_, e1_, ev, es⟩ | ⟨z1, z2, z3⟩
    · exact Or.inl ⟨j, e0_, e1_, ev, hk _ _ _ _ es⟩
    · exact Or.inr ⟨z1, z2, hk _ _ _ _ z3⟩
theorem lr_run (l : Launch) {E : mp_E} {M : mp_M} {h out : Nat} {R : Nat → Nat} {fo : Nat → Int64} {ld lr : Nat} {gd gr : Nat → Int32} {zd zr : List am_T} {thr : Int32} (q : LwS E M h out R fo ld gd zd lr thr gr zr) (i : Int32) : mp_Cr l m_Mo_run E M 6 0 0 [.ref (R 0), .int i] (fun v N => (∃ j, j ≤ lr ∧ i = nI j ∧ v = some (.int (nI (am_ans (am_two gr j lr)))) ∧ LwS E N h out R fo ld gd zd 0 (nI 0) gr (match am_two gr j lr with | none => zr | some ms => ms)) ∨ ((¬ ∃ j, j ≤ lr ∧ i = nI j) ∧ v = some (.int (nI 0)) ∧ LwS E N h out R fo ld gd zd lr (nI 1) gr zr)) :=
  q.ref (fun F hF => rk_run l hF i) fun v NF N hp hk => by
    rcases hp with ⟨j, e0_, e1_, ev, es⟩ | ⟨z1, z2, z3⟩
    · exact Or.inl ⟨j, e0_, e1_, ev, hk _ _ _ _ es⟩
    · exact Or.inr ⟨z1, z2, hk _ _ _ _ z3⟩
theorem lr_size (l : Launch) {E : mp_E} {M : mp_M} {h out : Nat} {R : Nat → Nat} {fo : Nat → Int64} {ld lr : Nat} {gd gr : Nat → Int32} {zd zr : List am_T} {thr : Int32} (q : LwS E M h out R fo ld gd zd lr thr gr zr) (i : Int32) : mp_Cr l m_Mo_size E M 2 0 0 [.ref (R 0), .int i] (fun v N => (∃ j, j < zr.length ∧ i = nI j ∧ v = some (.int (nI (zr.getD j []).length)) ∧ LwS E N h out R fo ld gd zd lr (nI 0) gr zr) ∨ ((¬ ∃ j, j < zr.length ∧ i = nI j) ∧ v = some (.int (nI 0)) ∧ LwS E N h out R fo ld gd zd lr (nI 1) gr zr)) :=
  q.ref (fun F hF => rk_size l hF i) fun v NF N hp hk => by
    rcases hp with ⟨j, e0_, e1_, ev, es⟩ | ⟨z1, z2, z3⟩
    · exact Or.inl ⟨j, e0_, e1_, ev, hk _ _ _ _ es⟩
    · exact Or.inr ⟨z1, z2, hk _ _ _ _ z3⟩
theorem lr_at (l : Launch) {E : mp_E} {M : mp_M} {h out : Nat} {R : Nat → Nat} {fo : Nat → Int64} {ld lr : Nat} {gd gr : Nat → Int32} {zd zr : List am_T} {thr : Int32} (q : LwS E M h out R fo ld gd zd lr thr gr zr) (i c : Int32) : mp_Cr l m_Mo_at E M 2 0 0 [.ref (R 0), .int i, .int c] (fun v N => (∃ j e, j < zr.length ∧ i = nI j ∧ e < (zr.getD j []).length ∧ c = nI e ∧ v = some (.int (nI (th_at (zr.getD j []).length (gb (zr.getD j [])) e))) ∧ LwS E N h out R fo ld gd zd lr (nI 0) gr zr) ∨ ((¬ ∃ j e, j < zr.length ∧ i = nI j ∧ e < (zr.getD j []).length ∧ c = nI e) ∧ v = some (.int (nI 0)) ∧ LwS E N h out R fo ld gd zd lr (nI 1) gr zr)) :=
  q.ref (fun F hF => rk_at l hF i c) fun v NF N hp hk => by
    rcases hp with ⟨j, e, e0_, e1_, e2_, e3_, ev, es⟩ | ⟨z1, z2, z3⟩
    · exact Or.inl ⟨j, e, e0_, e1_, e2_, e3_, ev, hk _ _ _ _ es⟩
    · exact Or.inr ⟨z1, z2, hk _ _ _ _ z3⟩
theorem lr_number (l : Launch) {E : mp_E} {M : mp_M} {h out : Nat} {R : Nat → Nat} {fo : Nat → Int64} {ld lr : Nat} {gd gr : Nat → Int32} {zd zr : List am_T} {thr : Int32} (q : LwS E M h out R fo ld gd zd lr thr gr zr) (i : Int32) : mp_Cr l m_Mo_number E M 2 0 0 [.ref (R 0), .int i] (fun v N => (∃ j, j < zr.length ∧ i = nI j ∧ (zr.getD j []).length ≤ 4 ∧ v = some (.int ((am_num (zr.getD j [])).toInt32)) ∧ LwS E N h out R fo ld gd zd lr (nI 0) gr zr) ∨ ((¬ ∃ j, j < zr.length ∧ i = nI j) ∧ v = some (.int (nI 0)) ∧ LwS E N h out R fo ld gd zd lr (nI 1) gr zr) ∨ ((∃ j, j < zr.length ∧ i = nI j ∧ ¬ (zr.getD j []).length ≤ 4) ∧ v = some (.int (nI 0)) ∧ LwS E N h out R fo ld gd zd lr (nI 2) gr zr)) :=
  q.ref (fun F hF => rk_number l hF i) fun v NF N hp hk => by
    rcases hp with ⟨j, e1, e2, ⟨z1, z2, z3⟩ | ⟨z1, z2, z3⟩⟩ | ⟨z1, z2, z3⟩
    · exact Or.inl ⟨j, e1, e2, z1, z2, hk _ _ _ _ z3⟩
    · exact Or.inr (Or.inr ⟨⟨j, e1, e2, z1⟩, z2, hk _ _ _ _ z3⟩)
    · exact Or.inr (Or.inl ⟨z1, z2, hk _ _ _ _ z3⟩)
theorem lr_sigs (l : Launch) {E : mp_E} {M : mp_M} {h out : Nat} {R : Nat → Nat} {fo : Nat → Int64} {ld lr : Nat} {gd gr : Nat → Int32} {zd zr : List am_T} {thr : Int32} (q : LwS E M h out R fo ld gd zd lr thr gr zr) (i : Int32) : mp_Cr l m_Mo_sigs E M 2 0 0 [.ref (R 0), .int i] (fun v N => (∃ j, j ≤ lr ∧ i = nI j ∧ v = some (.int (nI (sg_run gr j (j + 1) 0 0))) ∧ LwS E N h out R fo ld gd zd lr (nI 0) gr zr) ∨ ((¬ ∃ j, j ≤ lr ∧ i = nI j) ∧ v = some (.int (nI 0)) ∧ LwS E N h out R fo ld gd zd lr (nI 1) gr zr)) :=
  q.ref (fun F hF => rk_sigs l hF i) fun v NF N hp hk => by
    rcases hp with ⟨j, e0_, e1_, ev, es⟩ | ⟨z1, z2, z3⟩
    · exact Or.inl ⟨j, e0_, e1_, ev, hk _ _ _ _ es⟩
    · exact Or.inr ⟨z1, z2, hk _ _ _ _ z3⟩
theorem lr_hash (l : Launch) {E : mp_E} {M : mp_M} {h out : Nat} {R : Nat → Nat} {fo : Nat → Int64} {ld lr : Nat} {gd gr : Nat → Int32} {zd zr : List am_T} {thr : Int32} (q : LwS E M h out R fo ld gd zd lr thr gr zr) (a c : Int32) : mp_Cr l m_Mo_hash E M 3 0 0 [.ref (R 0), .int a, .int c] (fun v N => (∃ w r, w ≤ 2 ∧ a = nI w ∧ r ≤ (if w = 2 then 4 else 7) ∧ c = nI r ∧ v = some (.int (th_w (am_hs gr lr w).length (gb (am_hs gr lr w)) r 4)) ∧ LwS E N h out R fo ld gd zd lr (nI 0) gr zr) ∨ ((¬ ∃ w r, w ≤ 2 ∧ a = nI w ∧ r ≤ (if w = 2 then 4 else 7) ∧ c = nI r) ∧ v = some (.int (nI 0)) ∧ LwS E N h out R fo ld gd zd lr (nI 1) gr zr)) :=
  q.ref (fun F hF => rk_hash l hF a c) fun v NF N hp hk => by
    rcases hp with ⟨w, r, e0_, e1_, e2_, e3_, ev, es⟩ | ⟨z1, z2, z3⟩
    · exact Or.inl ⟨w, r, e0_, e1_, e2_, e3_, ev, hk _ _ _ _ es⟩
    · exact Or.inr ⟨z1, z2, hk _ _ _ _ z3⟩
theorem lr_depth (l : Launch) {E : mp_E} {M : mp_M} {h out : Nat} {R : Nat → Nat} {fo : Nat → Int64} {ld lr : Nat} {gd gr : Nat → Int32} {zd zr : List am_T} {thr : Int32} (q : LwS E M h out R fo ld gd zd lr thr gr zr) : mp_Cr l m_Mo_depth E M 1 0 0 [.ref (R 0)] (fun v N => v = some (.int (nI zr.length)) ∧ LwS E N h out R fo ld gd zd lr (nI 0) gr zr) :=
  q.ref (fun F hF => rk_depth l hF) fun v NF N ⟨h1, h2⟩ hk => ⟨h1, hk _ _ _ _ h2⟩
theorem lr_thrown (l : Launch) {E : mp_E} {M : mp_M} {h out : Nat} {R : Nat → Nat} {fo : Nat → Int64} {ld lr : Nat} {gd gr : Nat → Int32} {zd zr : List am_T} {thr : Int32} (q : LwS E M h out R fo ld gd zd lr thr gr zr) : mp_Cr l m_Mo_thrown E M 1 0 0 [.ref (R 0)] (fun v N => v = some (.int thr) ∧ LwS E N h out R fo ld gd zd lr thr gr zr) :=
  q.ref (fun F hF => rk_thrown l hF) fun v NF N ⟨h1, h2⟩ hk => ⟨h1, hk _ _ _ _ h2⟩
theorem ls_depth (l : Launch) {E : mp_E} {M : mp_M} {h out : Nat} {R : Nat → Nat} {fo : Nat → Int64} {ld lr : Nat} {gd gr : Nat → Int32} {zd zr : List am_T} {thr : Int32} (q : LwS E M h out R fo ld gd zd lr thr gr zr) : mp_Cr l m_De_depth E M 2 0 0 [.ref h] (fun v N => v = some (.int (nI zd.length)) ∧ LwS E N h out R fo ld gd zd lr thr gr zr) :=
  q.desk (fun D hD => dk_depth l hD) fun oc ND N hp hk => by
    cases oc with
    | inl v => exact ⟨hp.1, hk _ _ _ hp.2⟩
    | inr x => exact hp.elim
section LROW
variable {Γ : mp_G} {μ : mp_D} {E : mp_E} {κ : mp_K} {M : mp_M} {lv : List (Nat × Value)} {pc : Nat} {st : List Value} {k n b L : Nat} {xs : Nat → Int32}
theorem j_sld (hX : va_X b L xs Γ.s Γ.s.heap) (hbl : b < Γ.s.heap.size) (hbA : ¬ mp_A κ.1 Γ.s.heap.size b) {i : Int32} (j : Nat) (hi : i = nI j) (hj : j < L) (hL : L < 2 ^ 31) (d : decode μ.1 pc = .ok (.iaload, 1)) (kk : mp_J Γ μ E κ M lv (pc + 1) (.int (xs j) :: st) k n) : mp_J Γ μ E κ M lv pc (.int i :: .ref b :: st) k n := fun hC H locs ls hH hl => by
  obtain ⟨hx, hb, hrest⟩ := id hC
  subst hi
  have h1 := kk hC H locs ls hH hl
  refine va_sld hx hb hX hbl hbA hH.2 (vp_in_nI hj hL) d ?_
  rw [mp_clamp hj hL]
  exact h1
theorem j_slen (hX : va_X b L xs Γ.s Γ.s.heap) (hbl : b < Γ.s.heap.size) (hbA : ¬ mp_A κ.1 Γ.s.heap.size b) (d : decode μ.1 pc = .ok (.arraylength, 1)) (kk : mp_J Γ μ E κ M lv (pc + 1) (.int (nI L) :: st) k n) : mp_J Γ μ E κ M lv pc (.ref b :: st) k n := fun hC H locs ls hH hl => by
  obtain ⟨hx, hb, hrest⟩ := id hC
  exact va_slen hx hb hX hbl hbA hH.2 d (kk hC H locs ls hH hl)
end LROW
theorem law_c {i L : Nat} (hi : i < 10000) (hL : L < 10000) : nI L - nI 6 < nI i ↔ L < i + 6 := by
  rw [Int32.lt_iff_toInt_lt, pk_sub_toInt (by omega) (by omega), nI_toInt (by omega)]
  omega
set_option maxHeartbeats 4000000 in
set_option maxRecDepth 100000 in
theorem lp_law {Γ : mp_G} {κ : mp_K} (E : mp_E) (M : mp_M) (h out b L : Nat) (R : Nat → Nat) (xs : Nat → Int32) (hl0 : Γ.l.stackTraces = false) (hL : L ≤ 3072) (hX : va_X b L xs Γ.s Γ.s.heap) (hbl : b < Γ.s.heap.size) (hbA : ¬ mp_A κ.1 Γ.s.heap.size b) (hκd : κ.2.1 = 100) (hκc : κ.2.2.1 = 601024) (hκs : κ.2.2.2.1 = 7293034) (hend : ∀ (N : mp_M) (lv : List (Nat × Value)) (k n : Nat), k ≤ 601024 → n ≤ 7293034 → mp_J Γ m_La_law E κ N lv 632 [.int (nI 1)] k n)  : ∀ (r : Nat) (Mx : mp_M) (fo : Nat → Int64) (len : Nat) (g : Nat → Int32) (zs : List am_T) (thr : Int32) (t kc nc : Nat), L + 6 - 6 * t < r → (LwS E Mx h out R fo len g zs len thr g zs) → (kc + 4 * len ≤ 50 + 84 * t ∧ len ≤ 1000) → (nc + 66 * len ≤ 162000 + 1386 * t ∧ 6 * t ≤ L + 6) → mp_J Γ m_La_law E κ Mx [(0, .ref b), (1, .ref h), (2, .ref (R 0)), (3, .ref out), (4, .int (nI (6 * t)))] 23 [] kc nc := by
  intro r
  induction r with
  | zero => intro Mx fo len g zs thr t kc nc hr; exact absurd hr (Nat.not_lt_zero _)
  | succ r ih =>
    intro Mx fo len g zs thr t kc nc hr hS hb1 hb2
    have hzl : zs.length ≤ 200 := hS.zl
    have hlim : ∀ {p x : Nat}, x < (zs.getD p []).length → x < 1000 := fun {p x} hx => Nat.lt_of_lt_of_le hx (Nat.le_trans (hS.tl p) (by decide))
    refine j_iload d_La_law_23 4 rfl ?_
    refine j_aload_n d_La_law_25 rfl 0 rfl ?_
    refine j_slen hX hbl hbA d_La_law_26 ?_
    show mp_J Γ m_La_law E κ Mx [(0, .ref b), (1, .ref h), (2, .ref (R 0)), (3, .ref out), (4, .int (nI (6 * t)))] 27 [.int (nI L), .int (nI (6 * t))] kc nc
    refine j_bipush (v := nI 6) d_La_law_27 (by decide) ?_
    refine j_isub d_La_law_29 ?_
    refine j_icmp_gt 631 d_La_law_30 (by decide) (fun b30 => ?_) (fun b30 => ?_)
    · skip
      refine j_iconst (v := nI 1) d_La_law_631 (by decide) ?_
      exact hend _ _ (kc) (nc) (by omega) (by omega)
    · skip
      have hin : 6 * t + 6 ≤ L := Nat.not_lt.mp (fun z => b30 ((law_c (by omega) (by omega)).mpr z))
      refine j_aload_n d_La_law_33 rfl 0 rfl ?_
      refine j_iload d_La_law_34 4 rfl ?_
      refine j_sld hX hbl hbA (6 * t) rfl (by omega) (by omega) d_La_law_36 ?_
      refine j_bipush (v := 15) d_La_law_37 (by decide) ?_
      obtain ⟨c, hc1, hc2⟩ := pk_andE (xs (6 * t)) (m := 15) 4 (by decide)
      refine j_iand d_La_law_39 ?_
      refine j_eqi (y := nI c) hc2 ?_
      rcases (show c < 0 ∨ 8 < c ∨ c = 0 ∨ c = 1 ∨ c = 2 ∨ c = 3 ∨ c = 4 ∨ c = 5 ∨ c = 6 ∨ c = 7 ∨ c = 8 by omega) with hz9 | hz9 | rfl | rfl | rfl | rfl | rfl | rfl | rfl | rfl | rfl
      · skip
        refine j_tableOut 625 d_La_law_40 (Or.inl (by rw [nI_toInt (by omega)]; omega)) (by decide) ?_
        refine j_iinc (v := nI (6 * (t + 1))) [(4, .int (nI (6 * (t + 1)))), (0, .ref b), (1, .ref h), (2, .ref (R 0)), (3, .ref out)] d_La_law_625 4 rfl (nI_add (6 * t) 6) (by decide) rfl ?_
        refine j_goto (tgt := 23) d_La_law_628 (by decide) ?_
        refine j_lv [1, 2, 3, 4, 0] rfl ?_
        exact ih Mx fo len g zs thr (t + 1) (kc) (nc) (by omega) hS (by omega) (by omega)
      · skip
        refine j_tableOut 625 d_La_law_40 (Or.inr (by rw [nI_toInt (by omega)]; omega)) (by decide) ?_
        refine j_iinc (v := nI (6 * (t + 1))) [(4, .int (nI (6 * (t + 1)))), (0, .ref b), (1, .ref h), (2, .ref (R 0)), (3, .ref out)] d_La_law_625 4 rfl (nI_add (6 * t) 6) (by decide) rfl ?_
        refine j_goto (tgt := 23) d_La_law_628 (by decide) ?_
        refine j_lv [1, 2, 3, 4, 0] rfl ?_
        exact ih Mx fo len g zs thr (t + 1) (kc) (nc) (by omega) hS (by omega) (by omega)
      · skip
        refine j_tableIn 92 d_La_law_40 (by decide) (by decide) rfl (by decide) ?_
        refine j_aload_n d_La_law_92 rfl 1 rfl ?_
        refine j_aload_n d_La_law_93 rfl 0 rfl ?_
        refine j_iload d_La_law_94 4 rfl ?_
        refine j_iconst (v := nI 1) d_La_law_96 (by decide) ?_
        refine j_iadd d_La_law_97 ?_
        refine j_eqi (y := nI ((6 * t) + 1)) (nI_add (6 * t) 1) ?_
        refine j_sld hX hbl hbA ((6 * t) + 1) rfl (by omega) (by omega) d_La_law_98 ?_
        refine j_aload_n d_La_law_99 rfl 0 rfl ?_
        refine j_iload d_La_law_100 4 rfl ?_
        refine j_iconst (v := nI 2) d_La_law_102 (by decide) ?_
        refine j_iadd d_La_law_103 ?_
        refine j_eqi (y := nI ((6 * t) + 2)) (nI_add (6 * t) 2) ?_
        refine j_sld hX hbl hbA ((6 * t) + 2) rfl (by omega) (by omega) d_La_law_104 ?_
        refine j_aload_n d_La_law_105 rfl 0 rfl ?_
        refine j_iload d_La_law_106 4 rfl ?_
        refine j_iconst (v := nI 3) d_La_law_108 (by decide) ?_
        refine j_iadd d_La_law_109 ?_
        refine j_eqi (y := nI ((6 * t) + 3)) (nI_add (6 * t) 3) ?_
        refine j_sld hX hbl hbA ((6 * t) + 3) rfl (by omega) (by omega) d_La_law_110 ?_
        refine j_aload_n d_La_law_111 rfl 0 rfl ?_
        refine j_iload d_La_law_112 4 rfl ?_
        refine j_iconst (v := nI 4) d_La_law_114 (by decide) ?_
        refine j_iadd d_La_law_115 ?_
        refine j_eqi (y := nI ((6 * t) + 4)) (nI_add (6 * t) 4) ?_
        refine j_sld hX hbl hbA ((6 * t) + 4) rfl (by omega) (by omega) d_La_law_116 ?_
        refine j_aload_n d_La_law_117 rfl 0 rfl ?_
        refine j_iload d_La_law_118 4 rfl ?_
        refine j_iconst (v := nI 5) d_La_law_120 (by decide) ?_
        refine j_iadd d_La_law_121 ?_
        refine j_eqi (y := nI ((6 * t) + 5)) (nI_add (6 * t) 5) ?_
        refine j_sld hX hbl hbA ((6 * t) + 5) rfl (by omega) (by omega) d_La_law_122 ?_
        refine j_aload_n d_La_law_123 rfl 3 rfl ?_
        refine j_callSW (As := [.ref h, .int (xs ((6 * t) + 1)), .int (xs ((6 * t) + 2)), .int (xs ((6 * t) + 3)), .int (xs ((6 * t) + 4)), .int (xs ((6 * t) + 5)), .ref out]) (rest := []) (c_La_feed Γ.l hl0 hS (xs ((6 * t) + 1)) (xs ((6 * t) + 2)) (xs ((6 * t) + 3)) (xs ((6 * t) + 4)) (xs ((6 * t) + 5))) Yw_La_feed w_217 w_218 rfl rfl (Nat.le_of_ble_eq_true rfl) (by omega) (by omega) (by omega) d_La_law_124 (fun v124 N124 p124 => ?_)
        rcases p124 with ⟨e0_124, rfl, fo124, hfo124, hS124⟩ | ⟨hno124, rfl, hS124⟩
        · skip
          show mp_J Γ m_La_law E κ N124 [(0, .ref b), (1, .ref h), (2, .ref (R 0)), (3, .ref out), (4, .int (nI (6 * t)))] 127 [.int (nI 0)] (kc + (1)) (nc + (6))
          refine j_istore [(5, .int (nI 0)), (0, .ref b), (1, .ref h), (2, .ref (R 0)), (3, .ref out), (4, .int (nI (6 * t)))] d_La_law_127 (by decide) rfl ?_
          refine j_aload_n d_La_law_129 rfl 3 rfl ?_
          refine j_aload_n d_La_law_130 rfl 1 rfl ?_
          refine j_iload d_La_law_131 5 rfl ?_
          refine j_iconst (v := nI 1) d_La_law_133 (by decide) ?_
          refine j_iadd d_La_law_134 ?_
          refine j_eqi (y := nI ((6 * t) + 1)) (nI_add (6 * t) 1) ?_
          refine j_sld hX hbl hbA ((6 * t) + 1) rfl (by omega) (by omega) d_La_law_135 ?_
          refine j_aload_n d_La_law_136 rfl 1 rfl ?_
          refine j_iload d_La_law_137 5 rfl ?_
          refine j_iconst (v := nI 2) d_La_law_139 (by decide) ?_
          refine j_iadd d_La_law_140 ?_
          refine j_eqi (y := nI ((6 * t) + 2)) (nI_add (6 * t) 2) ?_
          refine j_sld hX hbl hbA ((6 * t) + 2) rfl (by omega) (by omega) d_La_law_141 ?_
          refine j_aload_n d_La_law_142 rfl 1 rfl ?_
          refine j_iload d_La_law_143 5 rfl ?_
          refine j_iconst (v := nI 3) d_La_law_145 (by decide) ?_
          refine j_iadd d_La_law_146 ?_
          refine j_eqi (y := nI ((6 * t) + 3)) (nI_add (6 * t) 3) ?_
          refine j_sld hX hbl hbA ((6 * t) + 3) rfl (by omega) (by omega) d_La_law_147 ?_
          refine j_aload_n d_La_law_148 rfl 1 rfl ?_
          refine j_iload d_La_law_149 5 rfl ?_
          refine j_iconst (v := nI 4) d_La_law_151 (by decide) ?_
          refine j_iadd d_La_law_152 ?_
          refine j_eqi (y := nI ((6 * t) + 4)) (nI_add (6 * t) 4) ?_
          refine j_sld hX hbl hbA ((6 * t) + 4) rfl (by omega) (by omega) d_La_law_153 ?_
          refine j_aload_n d_La_law_154 rfl 1 rfl ?_
          refine j_iload d_La_law_155 5 rfl ?_
          refine j_iconst (v := nI 5) d_La_law_157 (by decide) ?_
          refine j_iadd d_La_law_158 ?_
          refine j_eqi (y := nI ((6 * t) + 5)) (nI_add (6 * t) 5) ?_
          refine j_sld hX hbl hbA ((6 * t) + 5) rfl (by omega) (by omega) d_La_law_159 ?_
          obtain ⟨fs160, hr160⟩ := hS124.hr
          refine j_callV (As := [.int (xs ((6 * t) + 1)), .int (xs ((6 * t) + 2)), .int (xs ((6 * t) + 3)), .int (xs ((6 * t) + 4)), .int (xs ((6 * t) + 5))]) (rest := []) (lr_feed Γ.l hS124 (xs ((6 * t) + 1)) (xs ((6 * t) + 2)) (xs ((6 * t) + 3)) (xs ((6 * t) + 4)) (xs ((6 * t) + 5))) Y_Mo_feed w_994 w_995 w_996 hr160 rfl rfl rfl (Nat.le_of_ble_eq_true rfl) (by omega) (by omega) (by omega) d_La_law_160 (fun v160 N160 p160 => ?_)
          rcases p160 with ⟨e0_160, rfl, hS160⟩ | ⟨hno160, rfl, hS160⟩
          · skip
            show mp_J Γ m_La_law E κ N160 [(5, .int (nI 0)), (0, .ref b), (1, .ref h), (2, .ref (R 0)), (3, .ref out), (4, .int (nI (6 * t)))] 163 [.int (nI (len + 20))] (kc + (1)) (nc + (6))
            refine j_istore [(6, .int (nI (len + 20))), (5, .int (nI 0)), (0, .ref b), (1, .ref h), (2, .ref (R 0)), (3, .ref out), (4, .int (nI (6 * t)))] d_La_law_163 (by decide) rfl ?_
            refine j_aload_n d_La_law_165 rfl 4 rfl ?_
            obtain ⟨fs166, hr166⟩ := hS160.hr
            refine j_callV (As := []) (rest := []) (lr_thrown Γ.l hS160) Y_Mo_thrown w_990 w_991 w_992 hr166 rfl rfl rfl (Nat.le_of_ble_eq_true rfl) (by omega) (by omega) (by omega) d_La_law_166 (fun v166 N166 p166 => ?_)
            obtain ⟨rfl, hS166⟩ := p166
            show mp_J Γ m_La_law E κ N166 [(6, .int (nI (len + 20))), (5, .int (nI 0)), (0, .ref b), (1, .ref h), (2, .ref (R 0)), (3, .ref out), (4, .int (nI (6 * t)))] 169 [.int (nI 0)] (kc + (1)) (nc + (6))
            refine j_iload d_La_law_169 1 rfl ?_
            refine j_ncmp_eq 176 0 0 rfl rfl (by omega) (by omega) d_La_law_171 (by decide) (fun b171 => ?_) (fun b171 => (by first | exact b171.elim | exact absurd b171 (by omega)))
            refine j_iload d_La_law_176 1 rfl ?_
            refine j_nif_ne 193 0 rfl (by omega) d_La_law_178 (by decide) (fun b178 => (by first | exact b178.elim | exact absurd b178 (by omega))) (fun b178 => ?_)
            refine j_aload_n d_La_law_181 rfl 5 rfl ?_
            refine j_iconst (v := nI 0) d_La_law_182 (by decide) ?_
            refine j_lald hS166.ho 0 rfl (by omega) (by omega) d_La_law_183 ?_
            refine j_eql (y := (nI (len + 20)).toInt64) hfo124 ?_
            refine j_iload d_La_law_184 0 rfl ?_
            refine j_i2l d_La_law_186 ?_
            refine j_lcmp d_La_law_187 ?_
            refine j_if_eq 193 d_La_law_188 (by decide) (fun b188 => ?_) (fun b188 => absurd ((lg_cmp_eq _ _).mpr rfl) b188)
            refine j_goto (tgt := 625) d_La_law_193 (by decide) ?_
            refine j_iinc (v := nI (6 * (t + 1))) [(4, .int (nI (6 * (t + 1)))), (6, .int (nI (len + 20))), (5, .int (nI 0)), (0, .ref b), (1, .ref h), (2, .ref (R 0)), (3, .ref out)] d_La_law_625 6 rfl (nI_add (6 * t) 6) (by decide) rfl ?_
            refine j_goto (tgt := 23) d_La_law_628 (by decide) ?_
            refine j_lv [3, 4, 5, 6, 0] rfl ?_
            exact ih N166 fo124 (len + 20) (ap_5 g len (xs ((6 * t) + 1)) (xs ((6 * t) + 2)) (xs ((6 * t) + 3)) (xs ((6 * t) + 4)) (xs ((6 * t) + 5))) zs (nI 0) (t + 1) (kc + (1)) (nc + (6)) (by omega) hS166 (by omega) (by omega)
          · skip
            omega
        · skip
          show mp_J Γ m_La_law E κ N124 [(0, .ref b), (1, .ref h), (2, .ref (R 0)), (3, .ref out), (4, .int (nI (6 * t)))] 127 [.int (nI 1)] (kc + (1)) (nc + (6))
          refine j_istore [(5, .int (nI 1)), (0, .ref b), (1, .ref h), (2, .ref (R 0)), (3, .ref out), (4, .int (nI (6 * t)))] d_La_law_127 (by decide) rfl ?_
          refine j_aload_n d_La_law_129 rfl 3 rfl ?_
          refine j_aload_n d_La_law_130 rfl 1 rfl ?_
          refine j_iload d_La_law_131 5 rfl ?_
          refine j_iconst (v := nI 1) d_La_law_133 (by decide) ?_
          refine j_iadd d_La_law_134 ?_
          refine j_eqi (y := nI ((6 * t) + 1)) (nI_add (6 * t) 1) ?_
          refine j_sld hX hbl hbA ((6 * t) + 1) rfl (by omega) (by omega) d_La_law_135 ?_
          refine j_aload_n d_La_law_136 rfl 1 rfl ?_
          refine j_iload d_La_law_137 5 rfl ?_
          refine j_iconst (v := nI 2) d_La_law_139 (by decide) ?_
          refine j_iadd d_La_law_140 ?_
          refine j_eqi (y := nI ((6 * t) + 2)) (nI_add (6 * t) 2) ?_
          refine j_sld hX hbl hbA ((6 * t) + 2) rfl (by omega) (by omega) d_La_law_141 ?_
          refine j_aload_n d_La_law_142 rfl 1 rfl ?_
          refine j_iload d_La_law_143 5 rfl ?_
          refine j_iconst (v := nI 3) d_La_law_145 (by decide) ?_
          refine j_iadd d_La_law_146 ?_
          refine j_eqi (y := nI ((6 * t) + 3)) (nI_add (6 * t) 3) ?_
          refine j_sld hX hbl hbA ((6 * t) + 3) rfl (by omega) (by omega) d_La_law_147 ?_
          refine j_aload_n d_La_law_148 rfl 1 rfl ?_
          refine j_iload d_La_law_149 5 rfl ?_
          refine j_iconst (v := nI 4) d_La_law_151 (by decide) ?_
          refine j_iadd d_La_law_152 ?_
          refine j_eqi (y := nI ((6 * t) + 4)) (nI_add (6 * t) 4) ?_
          refine j_sld hX hbl hbA ((6 * t) + 4) rfl (by omega) (by omega) d_La_law_153 ?_
          refine j_aload_n d_La_law_154 rfl 1 rfl ?_
          refine j_iload d_La_law_155 5 rfl ?_
          refine j_iconst (v := nI 5) d_La_law_157 (by decide) ?_
          refine j_iadd d_La_law_158 ?_
          refine j_eqi (y := nI ((6 * t) + 5)) (nI_add (6 * t) 5) ?_
          refine j_sld hX hbl hbA ((6 * t) + 5) rfl (by omega) (by omega) d_La_law_159 ?_
          obtain ⟨fs160, hr160⟩ := hS124.hr
          refine j_callV (As := [.int (xs ((6 * t) + 1)), .int (xs ((6 * t) + 2)), .int (xs ((6 * t) + 3)), .int (xs ((6 * t) + 4)), .int (xs ((6 * t) + 5))]) (rest := []) (lr_feed Γ.l hS124 (xs ((6 * t) + 1)) (xs ((6 * t) + 2)) (xs ((6 * t) + 3)) (xs ((6 * t) + 4)) (xs ((6 * t) + 5))) Y_Mo_feed w_994 w_995 w_996 hr160 rfl rfl rfl (Nat.le_of_ble_eq_true rfl) (by omega) (by omega) (by omega) d_La_law_160 (fun v160 N160 p160 => ?_)
          rcases p160 with ⟨e0_160, rfl, hS160⟩ | ⟨hno160, rfl, hS160⟩
          · skip
            omega
          · skip
            show mp_J Γ m_La_law E κ N160 [(5, .int (nI 1)), (0, .ref b), (1, .ref h), (2, .ref (R 0)), (3, .ref out), (4, .int (nI (6 * t)))] 163 [.int (nI 0)] (kc + (1)) (nc + (6))
            refine j_istore [(6, .int (nI 0)), (5, .int (nI 1)), (0, .ref b), (1, .ref h), (2, .ref (R 0)), (3, .ref out), (4, .int (nI (6 * t)))] d_La_law_163 (by decide) rfl ?_
            refine j_aload_n d_La_law_165 rfl 4 rfl ?_
            obtain ⟨fs166, hr166⟩ := hS160.hr
            refine j_callV (As := []) (rest := []) (lr_thrown Γ.l hS160) Y_Mo_thrown w_990 w_991 w_992 hr166 rfl rfl rfl (Nat.le_of_ble_eq_true rfl) (by omega) (by omega) (by omega) d_La_law_166 (fun v166 N166 p166 => ?_)
            obtain ⟨rfl, hS166⟩ := p166
            show mp_J Γ m_La_law E κ N166 [(6, .int (nI 0)), (5, .int (nI 1)), (0, .ref b), (1, .ref h), (2, .ref (R 0)), (3, .ref out), (4, .int (nI (6 * t)))] 169 [.int (nI 1)] (kc + (1)) (nc + (6))
            refine j_iload d_La_law_169 1 rfl ?_
            refine j_ncmp_eq 176 1 1 rfl rfl (by omega) (by omega) d_La_law_171 (by decide) (fun b171 => ?_) (fun b171 => (by first | exact b171.elim | exact absurd b171 (by omega)))
            refine j_iload d_La_law_176 1 rfl ?_
            refine j_nif_ne 193 1 rfl (by omega) d_La_law_178 (by decide) (fun b178 => ?_) (fun b178 => (by first | exact b178.elim | exact absurd b178 (by omega)))
            refine j_goto (tgt := 625) d_La_law_193 (by decide) ?_
            refine j_iinc (v := nI (6 * (t + 1))) [(4, .int (nI (6 * (t + 1)))), (6, .int (nI 0)), (5, .int (nI 1)), (0, .ref b), (1, .ref h), (2, .ref (R 0)), (3, .ref out)] d_La_law_625 6 rfl (nI_add (6 * t) 6) (by decide) rfl ?_
            refine j_goto (tgt := 23) d_La_law_628 (by decide) ?_
            refine j_lv [3, 4, 5, 6, 0] rfl ?_
            exact ih N166 fo len g zs (nI 1) (t + 1) (kc + (1)) (nc + (6)) (by omega) hS166 (by omega) (by omega)
      · skip
        refine j_tableIn 196 d_La_law_40 (by decide) (by decide) rfl (by decide) ?_
        refine j_aload_n d_La_law_196 rfl 1 rfl ?_
        refine j_aload_n d_La_law_197 rfl 0 rfl ?_
        refine j_iload d_La_law_198 4 rfl ?_
        refine j_iconst (v := nI 1) d_La_law_200 (by decide) ?_
        refine j_iadd d_La_law_201 ?_
        refine j_eqi (y := nI ((6 * t) + 1)) (nI_add (6 * t) 1) ?_
        refine j_sld hX hbl hbA ((6 * t) + 1) rfl (by omega) (by omega) d_La_law_202 ?_
        refine j_aload_n d_La_law_203 rfl 3 rfl ?_
        refine j_callSW (As := [.ref h, .int (xs ((6 * t) + 1)), .ref out]) (rest := []) (c_La_end Γ.l hl0 hS (xs ((6 * t) + 1))) Yw_La_end w_294 w_295 rfl rfl (Nat.le_of_ble_eq_true rfl) (by omega) (by omega) (by omega) d_La_law_204 (fun v204 N204 p204 => ?_)
        rcases p204 with ⟨j204, e0_204, e1_204, rfl, fo204, hfo204, hS204⟩ | ⟨hno204, rfl, hS204⟩
        · skip
          show mp_J Γ m_La_law E κ N204 [(0, .ref b), (1, .ref h), (2, .ref (R 0)), (3, .ref out), (4, .int (nI (6 * t)))] 207 [.int (nI 0)] (kc + (1)) (nc + (6))
          refine j_istore [(5, .int (nI 0)), (0, .ref b), (1, .ref h), (2, .ref (R 0)), (3, .ref out), (4, .int (nI (6 * t)))] d_La_law_207 (by decide) rfl ?_
          refine j_aload_n d_La_law_209 rfl 3 rfl ?_
          refine j_aload_n d_La_law_210 rfl 1 rfl ?_
          refine j_iload d_La_law_211 5 rfl ?_
          refine j_iconst (v := nI 1) d_La_law_213 (by decide) ?_
          refine j_iadd d_La_law_214 ?_
          refine j_eqi (y := nI ((6 * t) + 1)) (nI_add (6 * t) 1) ?_
          refine j_sld hX hbl hbA ((6 * t) + 1) rfl (by omega) (by omega) d_La_law_215 ?_
          obtain ⟨fs216, hr216⟩ := hS204.hr
          refine j_callV (As := [.int (xs ((6 * t) + 1))]) (rest := []) (lr_end Γ.l hS204 (xs ((6 * t) + 1))) Y_Mo_end w_1002 w_1003 w_1004 hr216 rfl rfl rfl (Nat.le_of_ble_eq_true rfl) (by omega) (by omega) (by omega) d_La_law_216 (fun v216 N216 p216 => ?_)
          rcases p216 with ⟨j216, e0_216, e1_216, rfl, hS216⟩ | ⟨hno216, rfl, hS216⟩
          · skip
            have j0_216 : j216 = j204 := am_nIinj (by first | omega | (have h9 := hlim e0_216; omega) | (split at e0_216 <;> omega)) (by first | omega | (have h9 := hlim e0_204; omega) | (split at e0_204 <;> omega)) (e1_216.symm.trans e1_204)
            subst j0_216
            show mp_J Γ m_La_law E κ N216 [(5, .int (nI 0)), (0, .ref b), (1, .ref h), (2, .ref (R 0)), (3, .ref out), (4, .int (nI (6 * t)))] 219 [.int (nI j216)] (kc + (1)) (nc + (6))
            refine j_istore [(6, .int (nI j216)), (5, .int (nI 0)), (0, .ref b), (1, .ref h), (2, .ref (R 0)), (3, .ref out), (4, .int (nI (6 * t)))] d_La_law_219 (by decide) rfl ?_
            refine j_aload_n d_La_law_221 rfl 4 rfl ?_
            obtain ⟨fs222, hr222⟩ := hS216.hr
            refine j_callV (As := []) (rest := []) (lr_thrown Γ.l hS216) Y_Mo_thrown w_990 w_991 w_992 hr222 rfl rfl rfl (Nat.le_of_ble_eq_true rfl) (by omega) (by omega) (by omega) d_La_law_222 (fun v222 N222 p222 => ?_)
            obtain ⟨rfl, hS222⟩ := p222
            show mp_J Γ m_La_law E κ N222 [(6, .int (nI j216)), (5, .int (nI 0)), (0, .ref b), (1, .ref h), (2, .ref (R 0)), (3, .ref out), (4, .int (nI (6 * t)))] 225 [.int (nI 0)] (kc + (1)) (nc + (6))
            refine j_iload d_La_law_225 1 rfl ?_
            refine j_ncmp_eq 232 0 0 rfl rfl (by omega) (by omega) d_La_law_227 (by decide) (fun b227 => ?_) (fun b227 => (by first | exact b227.elim | exact absurd b227 (by omega)))
            refine j_iload d_La_law_232 1 rfl ?_
            refine j_nif_ne 249 0 rfl (by omega) d_La_law_234 (by decide) (fun b234 => (by first | exact b234.elim | exact absurd b234 (by omega))) (fun b234 => ?_)
            refine j_aload_n d_La_law_237 rfl 5 rfl ?_
            refine j_iconst (v := nI 0) d_La_law_238 (by decide) ?_
            refine j_lald hS222.ho 0 rfl (by omega) (by omega) d_La_law_239 ?_
            refine j_eql (y := (nI j216).toInt64) hfo204 ?_
            refine j_iload d_La_law_240 0 rfl ?_
            refine j_i2l d_La_law_242 ?_
            refine j_lcmp d_La_law_243 ?_
            refine j_if_eq 249 d_La_law_244 (by decide) (fun b244 => ?_) (fun b244 => absurd ((lg_cmp_eq _ _).mpr rfl) b244)
            refine j_goto (tgt := 625) d_La_law_249 (by decide) ?_
            refine j_iinc (v := nI (6 * (t + 1))) [(4, .int (nI (6 * (t + 1)))), (6, .int (nI j216)), (5, .int (nI 0)), (0, .ref b), (1, .ref h), (2, .ref (R 0)), (3, .ref out)] d_La_law_625 6 rfl (nI_add (6 * t) 6) (by decide) rfl ?_
            refine j_goto (tgt := 23) d_La_law_628 (by decide) ?_
            refine j_lv [3, 4, 5, 6, 0] rfl ?_
            exact ih N222 fo204 j216 g zs (nI 0) (t + 1) (kc + (1)) (nc + (6)) (by omega) hS222 (by omega) (by omega)
          · skip
            exact absurd ⟨j204, e0_204, e1_204⟩ hno216
        · skip
          show mp_J Γ m_La_law E κ N204 [(0, .ref b), (1, .ref h), (2, .ref (R 0)), (3, .ref out), (4, .int (nI (6 * t)))] 207 [.int (nI 1)] (kc + (1)) (nc + (6))
          refine j_istore [(5, .int (nI 1)), (0, .ref b), (1, .ref h), (2, .ref (R 0)), (3, .ref out), (4, .int (nI (6 * t)))] d_La_law_207 (by decide) rfl ?_
          refine j_aload_n d_La_law_209 rfl 3 rfl ?_
          refine j_aload_n d_La_law_210 rfl 1 rfl ?_
          refine j_iload d_La_law_211 5 rfl ?_
          refine j_iconst (v := nI 1) d_La_law_213 (by decide) ?_
          refine j_iadd d_La_law_214 ?_
          refine j_eqi (y := nI ((6 * t) + 1)) (nI_add (6 * t) 1) ?_
          refine j_sld hX hbl hbA ((6 * t) + 1) rfl (by omega) (by omega) d_La_law_215 ?_
          obtain ⟨fs216, hr216⟩ := hS204.hr
          refine j_callV (As := [.int (xs ((6 * t) + 1))]) (rest := []) (lr_end Γ.l hS204 (xs ((6 * t) + 1))) Y_Mo_end w_1002 w_1003 w_1004 hr216 rfl rfl rfl (Nat.le_of_ble_eq_true rfl) (by omega) (by omega) (by omega) d_La_law_216 (fun v216 N216 p216 => ?_)
          rcases p216 with ⟨j216, e0_216, e1_216, rfl, hS216⟩ | ⟨hno216, rfl, hS216⟩
          · skip
            exact absurd ⟨j216, e0_216, e1_216⟩ hno204
          · skip
            show mp_J Γ m_La_law E κ N216 [(5, .int (nI 1)), (0, .ref b), (1, .ref h), (2, .ref (R 0)), (3, .ref out), (4, .int (nI (6 * t)))] 219 [.int (nI 0)] (kc + (1)) (nc + (6))
            refine j_istore [(6, .int (nI 0)), (5, .int (nI 1)), (0, .ref b), (1, .ref h), (2, .ref (R 0)), (3, .ref out), (4, .int (nI (6 * t)))] d_La_law_219 (by decide) rfl ?_
            refine j_aload_n d_La_law_221 rfl 4 rfl ?_
            obtain ⟨fs222, hr222⟩ := hS216.hr
            refine j_callV (As := []) (rest := []) (lr_thrown Γ.l hS216) Y_Mo_thrown w_990 w_991 w_992 hr222 rfl rfl rfl (Nat.le_of_ble_eq_true rfl) (by omega) (by omega) (by omega) d_La_law_222 (fun v222 N222 p222 => ?_)
            obtain ⟨rfl, hS222⟩ := p222
            show mp_J Γ m_La_law E κ N222 [(6, .int (nI 0)), (5, .int (nI 1)), (0, .ref b), (1, .ref h), (2, .ref (R 0)), (3, .ref out), (4, .int (nI (6 * t)))] 225 [.int (nI 1)] (kc + (1)) (nc + (6))
            refine j_iload d_La_law_225 1 rfl ?_
            refine j_ncmp_eq 232 1 1 rfl rfl (by omega) (by omega) d_La_law_227 (by decide) (fun b227 => ?_) (fun b227 => (by first | exact b227.elim | exact absurd b227 (by omega)))
            refine j_iload d_La_law_232 1 rfl ?_
            refine j_nif_ne 249 1 rfl (by omega) d_La_law_234 (by decide) (fun b234 => ?_) (fun b234 => (by first | exact b234.elim | exact absurd b234 (by omega)))
            refine j_goto (tgt := 625) d_La_law_249 (by decide) ?_
            refine j_iinc (v := nI (6 * (t + 1))) [(4, .int (nI (6 * (t + 1)))), (6, .int (nI 0)), (5, .int (nI 1)), (0, .ref b), (1, .ref h), (2, .ref (R 0)), (3, .ref out)] d_La_law_625 6 rfl (nI_add (6 * t) 6) (by decide) rfl ?_
            refine j_goto (tgt := 23) d_La_law_628 (by decide) ?_
            refine j_lv [3, 4, 5, 6, 0] rfl ?_
            exact ih N222 fo len g zs (nI 1) (t + 1) (kc + (1)) (nc + (6)) (by omega) hS222 (by omega) (by omega)
      · skip
        refine j_tableIn 252 d_La_law_40 (by decide) (by decide) rfl (by decide) ?_
        refine j_aload_n d_La_law_252 rfl 1 rfl ?_
        refine j_aload_n d_La_law_253 rfl 0 rfl ?_
        refine j_iload d_La_law_254 4 rfl ?_
        refine j_iconst (v := nI 1) d_La_law_256 (by decide) ?_
        refine j_iadd d_La_law_257 ?_
        refine j_eqi (y := nI ((6 * t) + 1)) (nI_add (6 * t) 1) ?_
        refine j_sld hX hbl hbA ((6 * t) + 1) rfl (by omega) (by omega) d_La_law_258 ?_
        refine j_aload_n d_La_law_259 rfl 3 rfl ?_
        rcases Classical.em (∃ j, j ≤ len ∧ (xs ((6 * t) + 1)) = nI j) with hex260 | hno260
        rotate_left
        · skip
          refine j_callSW (As := [.ref h, .int (xs ((6 * t) + 1)), .ref out]) (rest := []) (c_La_run0 Γ.l hl0 hS (xs ((6 * t) + 1)) hno260) Yw_La_run w_321 w_322 rfl rfl (Nat.le_of_ble_eq_true rfl) (by omega) (by omega) (by omega) d_La_law_260 (fun v260 N260 p260 => ?_)
          obtain ⟨rfl, hS260⟩ := p260
          show mp_J Γ m_La_law E κ N260 [(0, .ref b), (1, .ref h), (2, .ref (R 0)), (3, .ref out), (4, .int (nI (6 * t)))] 263 [.int (nI 1)] (kc + (1)) (nc + (6))
          refine j_istore [(5, .int (nI 1)), (0, .ref b), (1, .ref h), (2, .ref (R 0)), (3, .ref out), (4, .int (nI (6 * t)))] d_La_law_263 (by decide) rfl ?_
          refine j_aload_n d_La_law_265 rfl 3 rfl ?_
          refine j_aload_n d_La_law_266 rfl 1 rfl ?_
          refine j_iload d_La_law_267 5 rfl ?_
          refine j_iconst (v := nI 1) d_La_law_269 (by decide) ?_
          refine j_iadd d_La_law_270 ?_
          refine j_eqi (y := nI ((6 * t) + 1)) (nI_add (6 * t) 1) ?_
          refine j_sld hX hbl hbA ((6 * t) + 1) rfl (by omega) (by omega) d_La_law_271 ?_
          obtain ⟨fs272, hr272⟩ := hS260.hr
          refine j_callV (As := [.int (xs ((6 * t) + 1))]) (rest := []) (lr_run Γ.l hS260 (xs ((6 * t) + 1))) Y_Mo_run w_1010 w_1011 w_1012 hr272 rfl rfl rfl (Nat.le_of_ble_eq_true rfl) (by omega) (by omega) (by omega) d_La_law_272 (fun v272 N272 p272 => ?_)
          rcases p272 with ⟨j272, e0_272, e1_272, rfl, hS272⟩ | ⟨hno272, rfl, hS272⟩
          · skip
            exact absurd ⟨j272, e0_272, e1_272⟩ hno260
          · skip
            show mp_J Γ m_La_law E κ N272 [(5, .int (nI 1)), (0, .ref b), (1, .ref h), (2, .ref (R 0)), (3, .ref out), (4, .int (nI (6 * t)))] 275 [.int (nI 0)] (kc + (1)) (nc + (6))
            refine j_istore [(6, .int (nI 0)), (5, .int (nI 1)), (0, .ref b), (1, .ref h), (2, .ref (R 0)), (3, .ref out), (4, .int (nI (6 * t)))] d_La_law_275 (by decide) rfl ?_
            refine j_aload_n d_La_law_277 rfl 4 rfl ?_
            obtain ⟨fs278, hr278⟩ := hS272.hr
            refine j_callV (As := []) (rest := []) (lr_thrown Γ.l hS272) Y_Mo_thrown w_990 w_991 w_992 hr278 rfl rfl rfl (Nat.le_of_ble_eq_true rfl) (by omega) (by omega) (by omega) d_La_law_278 (fun v278 N278 p278 => ?_)
            obtain ⟨rfl, hS278⟩ := p278
            show mp_J Γ m_La_law E κ N278 [(6, .int (nI 0)), (5, .int (nI 1)), (0, .ref b), (1, .ref h), (2, .ref (R 0)), (3, .ref out), (4, .int (nI (6 * t)))] 281 [.int (nI 1)] (kc + (1)) (nc + (6))
            refine j_iload d_La_law_281 1 rfl ?_
            refine j_ncmp_eq 288 1 1 rfl rfl (by omega) (by omega) d_La_law_283 (by decide) (fun b283 => ?_) (fun b283 => (by first | exact b283.elim | exact absurd b283 (by omega)))
            refine j_iload d_La_law_288 1 rfl ?_
            refine j_nif_ne 305 1 rfl (by omega) d_La_law_290 (by decide) (fun b290 => ?_) (fun b290 => (by first | exact b290.elim | exact absurd b290 (by omega)))
            refine j_goto (tgt := 625) d_La_law_305 (by decide) ?_
            refine j_iinc (v := nI (6 * (t + 1))) [(4, .int (nI (6 * (t + 1)))), (6, .int (nI 0)), (5, .int (nI 1)), (0, .ref b), (1, .ref h), (2, .ref (R 0)), (3, .ref out)] d_La_law_625 6 rfl (nI_add (6 * t) 6) (by decide) rfl ?_
            refine j_goto (tgt := 23) d_La_law_628 (by decide) ?_
            refine j_lv [3, 4, 5, 6, 0] rfl ?_
            exact ih N278 fo len g zs (nI 1) (t + 1) (kc + (1)) (nc + (6)) (by omega) hS278 (by omega) (by omega)
        refine j_callSW (As := [.ref h, .int (xs ((6 * t) + 1)), .ref out]) (rest := []) (c_La_run Γ.l hl0 hS (xs ((6 * t) + 1))) Yw_La_run w_321 w_322 rfl rfl (Nat.le_of_ble_eq_true rfl) (by omega) (by omega) (by omega) d_La_law_260 (fun v260 N260 p260 => ?_)
        rcases p260 with ⟨j260, e0_260, e1_260, rfl, fo260, hfo260, hS260⟩ | ⟨hno260, rfl, hS260⟩
        · skip
          show mp_J Γ m_La_law E κ N260 [(0, .ref b), (1, .ref h), (2, .ref (R 0)), (3, .ref out), (4, .int (nI (6 * t)))] 263 [.int (nI 0)] (kc + (4 * len + 1)) (nc + (66 * len + 6))
          refine j_istore [(5, .int (nI 0)), (0, .ref b), (1, .ref h), (2, .ref (R 0)), (3, .ref out), (4, .int (nI (6 * t)))] d_La_law_263 (by decide) rfl ?_
          refine j_aload_n d_La_law_265 rfl 3 rfl ?_
          refine j_aload_n d_La_law_266 rfl 1 rfl ?_
          refine j_iload d_La_law_267 5 rfl ?_
          refine j_iconst (v := nI 1) d_La_law_269 (by decide) ?_
          refine j_iadd d_La_law_270 ?_
          refine j_eqi (y := nI ((6 * t) + 1)) (nI_add (6 * t) 1) ?_
          refine j_sld hX hbl hbA ((6 * t) + 1) rfl (by omega) (by omega) d_La_law_271 ?_
          obtain ⟨fs272, hr272⟩ := hS260.hr
          refine j_callV (As := [.int (xs ((6 * t) + 1))]) (rest := []) (lr_run Γ.l hS260 (xs ((6 * t) + 1))) Y_Mo_run w_1010 w_1011 w_1012 hr272 rfl rfl rfl (Nat.le_of_ble_eq_true rfl) (by omega) (by omega) (by omega) d_La_law_272 (fun v272 N272 p272 => ?_)
          rcases p272 with ⟨j272, e0_272, e1_272, rfl, hS272⟩ | ⟨hno272, rfl, hS272⟩
          · skip
            have j0_272 : j272 = j260 := am_nIinj (by first | omega | (have h9 := hlim e0_272; omega) | (split at e0_272 <;> omega)) (by first | omega | (have h9 := hlim e0_260; omega) | (split at e0_260 <;> omega)) (e1_272.symm.trans e1_260)
            subst j0_272
            show mp_J Γ m_La_law E κ N272 [(5, .int (nI 0)), (0, .ref b), (1, .ref h), (2, .ref (R 0)), (3, .ref out), (4, .int (nI (6 * t)))] 275 [.int (nI (am_ans (am_two g j272 len)))] (kc + (4 * len + 1)) (nc + (66 * len + 6))
            refine j_istore [(6, .int (nI (am_ans (am_two g j272 len)))), (5, .int (nI 0)), (0, .ref b), (1, .ref h), (2, .ref (R 0)), (3, .ref out), (4, .int (nI (6 * t)))] d_La_law_275 (by decide) rfl ?_
            refine j_aload_n d_La_law_277 rfl 4 rfl ?_
            obtain ⟨fs278, hr278⟩ := hS272.hr
            refine j_callV (As := []) (rest := []) (lr_thrown Γ.l hS272) Y_Mo_thrown w_990 w_991 w_992 hr278 rfl rfl rfl (Nat.le_of_ble_eq_true rfl) (by omega) (by omega) (by omega) d_La_law_278 (fun v278 N278 p278 => ?_)
            obtain ⟨rfl, hS278⟩ := p278
            show mp_J Γ m_La_law E κ N278 [(6, .int (nI (am_ans (am_two g j272 len)))), (5, .int (nI 0)), (0, .ref b), (1, .ref h), (2, .ref (R 0)), (3, .ref out), (4, .int (nI (6 * t)))] 281 [.int (nI 0)] (kc + (4 * len + 1)) (nc + (66 * len + 6))
            refine j_iload d_La_law_281 1 rfl ?_
            refine j_ncmp_eq 288 0 0 rfl rfl (by omega) (by omega) d_La_law_283 (by decide) (fun b283 => ?_) (fun b283 => (by first | exact b283.elim | exact absurd b283 (by omega)))
            refine j_iload d_La_law_288 1 rfl ?_
            refine j_nif_ne 305 0 rfl (by omega) d_La_law_290 (by decide) (fun b290 => (by first | exact b290.elim | exact absurd b290 (by omega))) (fun b290 => ?_)
            refine j_aload_n d_La_law_293 rfl 5 rfl ?_
            refine j_iconst (v := nI 0) d_La_law_294 (by decide) ?_
            refine j_lald hS278.ho 0 rfl (by omega) (by omega) d_La_law_295 ?_
            refine j_eql (y := (nI (am_ans (am_two g j272 len))).toInt64) hfo260 ?_
            refine j_iload d_La_law_296 0 rfl ?_
            refine j_i2l d_La_law_298 ?_
            refine j_lcmp d_La_law_299 ?_
            refine j_if_eq 305 d_La_law_300 (by decide) (fun b300 => ?_) (fun b300 => absurd ((lg_cmp_eq _ _).mpr rfl) b300)
            refine j_goto (tgt := 625) d_La_law_305 (by decide) ?_
            refine j_iinc (v := nI (6 * (t + 1))) [(4, .int (nI (6 * (t + 1)))), (6, .int (nI (am_ans (am_two g j272 len)))), (5, .int (nI 0)), (0, .ref b), (1, .ref h), (2, .ref (R 0)), (3, .ref out)] d_La_law_625 6 rfl (nI_add (6 * t) 6) (by decide) rfl ?_
            refine j_goto (tgt := 23) d_La_law_628 (by decide) ?_
            refine j_lv [3, 4, 5, 6, 0] rfl ?_
            exact ih N278 fo260 0 g (match am_two g j272 len with | none => zs | some ms => ms) (nI 0) (t + 1) (kc + (4 * len + 1)) (nc + (66 * len + 6)) (by omega) hS278 (by omega) (by omega)
          · skip
            exact absurd ⟨j260, e0_260, e1_260⟩ hno272
        · exact absurd hex260 hno260
      · skip
        refine j_tableIn 308 d_La_law_40 (by decide) (by decide) rfl (by decide) ?_
        refine j_aload_n d_La_law_308 rfl 1 rfl ?_
        obtain ⟨fs309, hr309⟩ := hS.hh
        refine j_callV (As := []) (rest := []) (ls_depth Γ.l hS) Y_De_depth w_209 w_210 w_211 hr309 rfl rfl rfl (Nat.le_of_ble_eq_true rfl) (by omega) (by omega) (by omega) d_La_law_309 (fun v309 N309 p309 => ?_)
        obtain ⟨rfl, hS309⟩ := p309
        show mp_J Γ m_La_law E κ N309 [(0, .ref b), (1, .ref h), (2, .ref (R 0)), (3, .ref out), (4, .int (nI (6 * t)))] 312 [.int (nI zs.length)] kc nc
        refine j_aload_n d_La_law_312 rfl 2 rfl ?_
        obtain ⟨fs313, hr313⟩ := hS309.hr
        refine j_callV (As := []) (rest := [.int (nI zs.length)]) (lr_depth Γ.l hS309) Y_Mo_depth w_1127 w_1128 w_1129 hr313 rfl rfl rfl (Nat.le_of_ble_eq_true rfl) (by omega) (by omega) (by omega) d_La_law_313 (fun v313 N313 p313 => ?_)
        obtain ⟨rfl, hS313⟩ := p313
        show mp_J Γ m_La_law E κ N313 [(0, .ref b), (1, .ref h), (2, .ref (R 0)), (3, .ref out), (4, .int (nI (6 * t)))] 316 [.int (nI zs.length), .int (nI zs.length)] kc nc
        refine j_ncmp_eq 625 zs.length zs.length rfl rfl (by omega) (by omega) d_La_law_316 (by decide) (fun b316 => ?_) (fun b316 => absurd rfl b316)
        refine j_iinc (v := nI (6 * (t + 1))) [(4, .int (nI (6 * (t + 1)))), (0, .ref b), (1, .ref h), (2, .ref (R 0)), (3, .ref out)] d_La_law_625 4 rfl (nI_add (6 * t) 6) (by decide) rfl ?_
        refine j_goto (tgt := 23) d_La_law_628 (by decide) ?_
        refine j_lv [1, 2, 3, 4, 0] rfl ?_
        exact ih N313 fo len g zs (nI 0) (t + 1) (kc) (nc) (by omega) hS313 (by omega) (by omega)
      · skip
        refine j_tableIn 321 d_La_law_40 (by decide) (by decide) rfl (by decide) ?_
        refine j_aload_n d_La_law_321 rfl 1 rfl ?_
        refine j_aload_n d_La_law_322 rfl 0 rfl ?_
        refine j_iload d_La_law_323 4 rfl ?_
        refine j_iconst (v := nI 1) d_La_law_325 (by decide) ?_
        refine j_iadd d_La_law_326 ?_
        refine j_eqi (y := nI ((6 * t) + 1)) (nI_add (6 * t) 1) ?_
        refine j_sld hX hbl hbA ((6 * t) + 1) rfl (by omega) (by omega) d_La_law_327 ?_
        refine j_aload_n d_La_law_328 rfl 3 rfl ?_
        refine j_callSW (As := [.ref h, .int (xs ((6 * t) + 1)), .ref out]) (rest := []) (c_La_size Γ.l hl0 hS (xs ((6 * t) + 1))) Yw_La_size w_850 w_851 rfl rfl (Nat.le_of_ble_eq_true rfl) (by omega) (by omega) (by omega) d_La_law_329 (fun v329 N329 p329 => ?_)
        rcases p329 with ⟨j329, e0_329, e1_329, rfl, fo329, hfo329, hS329⟩ | ⟨hno329, rfl, hS329⟩
        · skip
          show mp_J Γ m_La_law E κ N329 [(0, .ref b), (1, .ref h), (2, .ref (R 0)), (3, .ref out), (4, .int (nI (6 * t)))] 332 [.int (nI 0)] (kc + (1)) (nc + (6))
          refine j_istore [(5, .int (nI 0)), (0, .ref b), (1, .ref h), (2, .ref (R 0)), (3, .ref out), (4, .int (nI (6 * t)))] d_La_law_332 (by decide) rfl ?_
          refine j_aload_n d_La_law_334 rfl 3 rfl ?_
          refine j_aload_n d_La_law_335 rfl 1 rfl ?_
          refine j_iload d_La_law_336 5 rfl ?_
          refine j_iconst (v := nI 1) d_La_law_338 (by decide) ?_
          refine j_iadd d_La_law_339 ?_
          refine j_eqi (y := nI ((6 * t) + 1)) (nI_add (6 * t) 1) ?_
          refine j_sld hX hbl hbA ((6 * t) + 1) rfl (by omega) (by omega) d_La_law_340 ?_
          obtain ⟨fs341, hr341⟩ := hS329.hr
          refine j_callV (As := [.int (xs ((6 * t) + 1))]) (rest := []) (lr_size Γ.l hS329 (xs ((6 * t) + 1))) Y_Mo_size w_1131 w_1132 w_1133 hr341 rfl rfl rfl (Nat.le_of_ble_eq_true rfl) (by omega) (by omega) (by omega) d_La_law_341 (fun v341 N341 p341 => ?_)
          rcases p341 with ⟨j341, e0_341, e1_341, rfl, hS341⟩ | ⟨hno341, rfl, hS341⟩
          · skip
            have j0_341 : j341 = j329 := am_nIinj (by first | omega | (have h9 := hlim e0_341; omega) | (split at e0_341 <;> omega)) (by first | omega | (have h9 := hlim e0_329; omega) | (split at e0_329 <;> omega)) (e1_341.symm.trans e1_329)
            subst j0_341
            show mp_J Γ m_La_law E κ N341 [(5, .int (nI 0)), (0, .ref b), (1, .ref h), (2, .ref (R 0)), (3, .ref out), (4, .int (nI (6 * t)))] 344 [.int (nI (zs.getD j341 []).length)] (kc + (1)) (nc + (6))
            refine j_istore [(6, .int (nI (zs.getD j341 []).length)), (5, .int (nI 0)), (0, .ref b), (1, .ref h), (2, .ref (R 0)), (3, .ref out), (4, .int (nI (6 * t)))] d_La_law_344 (by decide) rfl ?_
            refine j_aload_n d_La_law_346 rfl 4 rfl ?_
            obtain ⟨fs347, hr347⟩ := hS341.hr
            refine j_callV (As := []) (rest := []) (lr_thrown Γ.l hS341) Y_Mo_thrown w_990 w_991 w_992 hr347 rfl rfl rfl (Nat.le_of_ble_eq_true rfl) (by omega) (by omega) (by omega) d_La_law_347 (fun v347 N347 p347 => ?_)
            obtain ⟨rfl, hS347⟩ := p347
            show mp_J Γ m_La_law E κ N347 [(6, .int (nI (zs.getD j341 []).length)), (5, .int (nI 0)), (0, .ref b), (1, .ref h), (2, .ref (R 0)), (3, .ref out), (4, .int (nI (6 * t)))] 350 [.int (nI 0)] (kc + (1)) (nc + (6))
            refine j_iload d_La_law_350 1 rfl ?_
            refine j_ncmp_eq 357 0 0 rfl rfl (by omega) (by omega) d_La_law_352 (by decide) (fun b352 => ?_) (fun b352 => (by first | exact b352.elim | exact absurd b352 (by omega)))
            refine j_iload d_La_law_357 1 rfl ?_
            refine j_nif_ne 374 0 rfl (by omega) d_La_law_359 (by decide) (fun b359 => (by first | exact b359.elim | exact absurd b359 (by omega))) (fun b359 => ?_)
            refine j_aload_n d_La_law_362 rfl 5 rfl ?_
            refine j_iconst (v := nI 0) d_La_law_363 (by decide) ?_
            refine j_lald hS347.ho 0 rfl (by omega) (by omega) d_La_law_364 ?_
            refine j_eql (y := (nI (zs.getD j341 []).length).toInt64) hfo329 ?_
            refine j_iload d_La_law_365 0 rfl ?_
            refine j_i2l d_La_law_367 ?_
            refine j_lcmp d_La_law_368 ?_
            refine j_if_eq 374 d_La_law_369 (by decide) (fun b369 => ?_) (fun b369 => absurd ((lg_cmp_eq _ _).mpr rfl) b369)
            refine j_goto (tgt := 625) d_La_law_374 (by decide) ?_
            refine j_iinc (v := nI (6 * (t + 1))) [(4, .int (nI (6 * (t + 1)))), (6, .int (nI (zs.getD j341 []).length)), (5, .int (nI 0)), (0, .ref b), (1, .ref h), (2, .ref (R 0)), (3, .ref out)] d_La_law_625 6 rfl (nI_add (6 * t) 6) (by decide) rfl ?_
            refine j_goto (tgt := 23) d_La_law_628 (by decide) ?_
            refine j_lv [3, 4, 5, 6, 0] rfl ?_
            exact ih N347 fo329 len g zs (nI 0) (t + 1) (kc + (1)) (nc + (6)) (by omega) hS347 (by omega) (by omega)
          · skip
            exact absurd ⟨j329, e0_329, e1_329⟩ hno341
        · skip
          show mp_J Γ m_La_law E κ N329 [(0, .ref b), (1, .ref h), (2, .ref (R 0)), (3, .ref out), (4, .int (nI (6 * t)))] 332 [.int (nI 1)] (kc + (1)) (nc + (6))
          refine j_istore [(5, .int (nI 1)), (0, .ref b), (1, .ref h), (2, .ref (R 0)), (3, .ref out), (4, .int (nI (6 * t)))] d_La_law_332 (by decide) rfl ?_
          refine j_aload_n d_La_law_334 rfl 3 rfl ?_
          refine j_aload_n d_La_law_335 rfl 1 rfl ?_
          refine j_iload d_La_law_336 5 rfl ?_
          refine j_iconst (v := nI 1) d_La_law_338 (by decide) ?_
          refine j_iadd d_La_law_339 ?_
          refine j_eqi (y := nI ((6 * t) + 1)) (nI_add (6 * t) 1) ?_
          refine j_sld hX hbl hbA ((6 * t) + 1) rfl (by omega) (by omega) d_La_law_340 ?_
          obtain ⟨fs341, hr341⟩ := hS329.hr
          refine j_callV (As := [.int (xs ((6 * t) + 1))]) (rest := []) (lr_size Γ.l hS329 (xs ((6 * t) + 1))) Y_Mo_size w_1131 w_1132 w_1133 hr341 rfl rfl rfl (Nat.le_of_ble_eq_true rfl) (by omega) (by omega) (by omega) d_La_law_341 (fun v341 N341 p341 => ?_)
          rcases p341 with ⟨j341, e0_341, e1_341, rfl, hS341⟩ | ⟨hno341, rfl, hS341⟩
          · skip
            exact absurd ⟨j341, e0_341, e1_341⟩ hno329
          · skip
            show mp_J Γ m_La_law E κ N341 [(5, .int (nI 1)), (0, .ref b), (1, .ref h), (2, .ref (R 0)), (3, .ref out), (4, .int (nI (6 * t)))] 344 [.int (nI 0)] (kc + (1)) (nc + (6))
            refine j_istore [(6, .int (nI 0)), (5, .int (nI 1)), (0, .ref b), (1, .ref h), (2, .ref (R 0)), (3, .ref out), (4, .int (nI (6 * t)))] d_La_law_344 (by decide) rfl ?_
            refine j_aload_n d_La_law_346 rfl 4 rfl ?_
            obtain ⟨fs347, hr347⟩ := hS341.hr
            refine j_callV (As := []) (rest := []) (lr_thrown Γ.l hS341) Y_Mo_thrown w_990 w_991 w_992 hr347 rfl rfl rfl (Nat.le_of_ble_eq_true rfl) (by omega) (by omega) (by omega) d_La_law_347 (fun v347 N347 p347 => ?_)
            obtain ⟨rfl, hS347⟩ := p347
            show mp_J Γ m_La_law E κ N347 [(6, .int (nI 0)), (5, .int (nI 1)), (0, .ref b), (1, .ref h), (2, .ref (R 0)), (3, .ref out), (4, .int (nI (6 * t)))] 350 [.int (nI 1)] (kc + (1)) (nc + (6))
            refine j_iload d_La_law_350 1 rfl ?_
            refine j_ncmp_eq 357 1 1 rfl rfl (by omega) (by omega) d_La_law_352 (by decide) (fun b352 => ?_) (fun b352 => (by first | exact b352.elim | exact absurd b352 (by omega)))
            refine j_iload d_La_law_357 1 rfl ?_
            refine j_nif_ne 374 1 rfl (by omega) d_La_law_359 (by decide) (fun b359 => ?_) (fun b359 => (by first | exact b359.elim | exact absurd b359 (by omega)))
            refine j_goto (tgt := 625) d_La_law_374 (by decide) ?_
            refine j_iinc (v := nI (6 * (t + 1))) [(4, .int (nI (6 * (t + 1)))), (6, .int (nI 0)), (5, .int (nI 1)), (0, .ref b), (1, .ref h), (2, .ref (R 0)), (3, .ref out)] d_La_law_625 6 rfl (nI_add (6 * t) 6) (by decide) rfl ?_
            refine j_goto (tgt := 23) d_La_law_628 (by decide) ?_
            refine j_lv [3, 4, 5, 6, 0] rfl ?_
            exact ih N347 fo len g zs (nI 1) (t + 1) (kc + (1)) (nc + (6)) (by omega) hS347 (by omega) (by omega)
      · skip
        refine j_tableIn 377 d_La_law_40 (by decide) (by decide) rfl (by decide) ?_
        refine j_aload_n d_La_law_377 rfl 1 rfl ?_
        refine j_aload_n d_La_law_378 rfl 0 rfl ?_
        refine j_iload d_La_law_379 4 rfl ?_
        refine j_iconst (v := nI 1) d_La_law_381 (by decide) ?_
        refine j_iadd d_La_law_382 ?_
        refine j_eqi (y := nI ((6 * t) + 1)) (nI_add (6 * t) 1) ?_
        refine j_sld hX hbl hbA ((6 * t) + 1) rfl (by omega) (by omega) d_La_law_383 ?_
        refine j_aload_n d_La_law_384 rfl 0 rfl ?_
        refine j_iload d_La_law_385 4 rfl ?_
        refine j_iconst (v := nI 2) d_La_law_387 (by decide) ?_
        refine j_iadd d_La_law_388 ?_
        refine j_eqi (y := nI ((6 * t) + 2)) (nI_add (6 * t) 2) ?_
        refine j_sld hX hbl hbA ((6 * t) + 2) rfl (by omega) (by omega) d_La_law_389 ?_
        refine j_aload_n d_La_law_390 rfl 3 rfl ?_
        refine j_callSW (As := [.ref h, .int (xs ((6 * t) + 1)), .int (xs ((6 * t) + 2)), .ref out]) (rest := []) (c_La_at Γ.l hl0 hS (xs ((6 * t) + 1)) (xs ((6 * t) + 2))) Yw_La_at w_875 w_876 rfl rfl (Nat.le_of_ble_eq_true rfl) (by omega) (by omega) (by omega) d_La_law_391 (fun v391 N391 p391 => ?_)
        rcases p391 with ⟨j391, e391, e0_391, e1_391, e2_391, e3_391, rfl, fo391, hfo391, hS391⟩ | ⟨hno391, rfl, hS391⟩
        · skip
          show mp_J Γ m_La_law E κ N391 [(0, .ref b), (1, .ref h), (2, .ref (R 0)), (3, .ref out), (4, .int (nI (6 * t)))] 394 [.int (nI 0)] (kc + (1)) (nc + (6))
          refine j_istore [(5, .int (nI 0)), (0, .ref b), (1, .ref h), (2, .ref (R 0)), (3, .ref out), (4, .int (nI (6 * t)))] d_La_law_394 (by decide) rfl ?_
          refine j_aload_n d_La_law_396 rfl 3 rfl ?_
          refine j_aload_n d_La_law_397 rfl 1 rfl ?_
          refine j_iload d_La_law_398 5 rfl ?_
          refine j_iconst (v := nI 1) d_La_law_400 (by decide) ?_
          refine j_iadd d_La_law_401 ?_
          refine j_eqi (y := nI ((6 * t) + 1)) (nI_add (6 * t) 1) ?_
          refine j_sld hX hbl hbA ((6 * t) + 1) rfl (by omega) (by omega) d_La_law_402 ?_
          refine j_aload_n d_La_law_403 rfl 1 rfl ?_
          refine j_iload d_La_law_404 5 rfl ?_
          refine j_iconst (v := nI 2) d_La_law_406 (by decide) ?_
          refine j_iadd d_La_law_407 ?_
          refine j_eqi (y := nI ((6 * t) + 2)) (nI_add (6 * t) 2) ?_
          refine j_sld hX hbl hbA ((6 * t) + 2) rfl (by omega) (by omega) d_La_law_408 ?_
          obtain ⟨fs409, hr409⟩ := hS391.hr
          refine j_callV (As := [.int (xs ((6 * t) + 1)), .int (xs ((6 * t) + 2))]) (rest := []) (lr_at Γ.l hS391 (xs ((6 * t) + 1)) (xs ((6 * t) + 2))) Y_Mo_at w_1139 w_1140 w_1141 hr409 rfl rfl rfl (Nat.le_of_ble_eq_true rfl) (by omega) (by omega) (by omega) d_La_law_409 (fun v409 N409 p409 => ?_)
          rcases p409 with ⟨j409, e409, e0_409, e1_409, e2_409, e3_409, rfl, hS409⟩ | ⟨hno409, rfl, hS409⟩
          · skip
            have j0_409 : j409 = j391 := am_nIinj (by first | omega | (have h9 := hlim e0_409; omega) | (split at e0_409 <;> omega)) (by first | omega | (have h9 := hlim e0_391; omega) | (split at e0_391 <;> omega)) (e1_409.symm.trans e1_391)
            subst j0_409
            have j1_409 : e409 = e391 := am_nIinj (by first | omega | (have h9 := hlim e2_409; omega) | (split at e2_409 <;> omega)) (by first | omega | (have h9 := hlim e2_391; omega) | (split at e2_391 <;> omega)) (e3_409.symm.trans e3_391)
            subst j1_409
            show mp_J Γ m_La_law E κ N409 [(5, .int (nI 0)), (0, .ref b), (1, .ref h), (2, .ref (R 0)), (3, .ref out), (4, .int (nI (6 * t)))] 412 [.int (nI (th_at (zs.getD j409 []).length (gb (zs.getD j409 [])) e409))] (kc + (1)) (nc + (6))
            refine j_istore [(6, .int (nI (th_at (zs.getD j409 []).length (gb (zs.getD j409 [])) e409))), (5, .int (nI 0)), (0, .ref b), (1, .ref h), (2, .ref (R 0)), (3, .ref out), (4, .int (nI (6 * t)))] d_La_law_412 (by decide) rfl ?_
            refine j_aload_n d_La_law_414 rfl 4 rfl ?_
            obtain ⟨fs415, hr415⟩ := hS409.hr
            refine j_callV (As := []) (rest := []) (lr_thrown Γ.l hS409) Y_Mo_thrown w_990 w_991 w_992 hr415 rfl rfl rfl (Nat.le_of_ble_eq_true rfl) (by omega) (by omega) (by omega) d_La_law_415 (fun v415 N415 p415 => ?_)
            obtain ⟨rfl, hS415⟩ := p415
            show mp_J Γ m_La_law E κ N415 [(6, .int (nI (th_at (zs.getD j409 []).length (gb (zs.getD j409 [])) e409))), (5, .int (nI 0)), (0, .ref b), (1, .ref h), (2, .ref (R 0)), (3, .ref out), (4, .int (nI (6 * t)))] 418 [.int (nI 0)] (kc + (1)) (nc + (6))
            refine j_iload d_La_law_418 1 rfl ?_
            refine j_ncmp_eq 425 0 0 rfl rfl (by omega) (by omega) d_La_law_420 (by decide) (fun b420 => ?_) (fun b420 => (by first | exact b420.elim | exact absurd b420 (by omega)))
            refine j_iload d_La_law_425 1 rfl ?_
            refine j_nif_ne 442 0 rfl (by omega) d_La_law_427 (by decide) (fun b427 => (by first | exact b427.elim | exact absurd b427 (by omega))) (fun b427 => ?_)
            refine j_aload_n d_La_law_430 rfl 5 rfl ?_
            refine j_iconst (v := nI 0) d_La_law_431 (by decide) ?_
            refine j_lald hS415.ho 0 rfl (by omega) (by omega) d_La_law_432 ?_
            refine j_eql (y := (nI (th_at (zs.getD j409 []).length (gb (zs.getD j409 [])) e409)).toInt64) hfo391 ?_
            refine j_iload d_La_law_433 0 rfl ?_
            refine j_i2l d_La_law_435 ?_
            refine j_lcmp d_La_law_436 ?_
            refine j_if_eq 442 d_La_law_437 (by decide) (fun b437 => ?_) (fun b437 => absurd ((lg_cmp_eq _ _).mpr rfl) b437)
            refine j_goto (tgt := 625) d_La_law_442 (by decide) ?_
            refine j_iinc (v := nI (6 * (t + 1))) [(4, .int (nI (6 * (t + 1)))), (6, .int (nI (th_at (zs.getD j409 []).length (gb (zs.getD j409 [])) e409))), (5, .int (nI 0)), (0, .ref b), (1, .ref h), (2, .ref (R 0)), (3, .ref out)] d_La_law_625 6 rfl (nI_add (6 * t) 6) (by decide) rfl ?_
            refine j_goto (tgt := 23) d_La_law_628 (by decide) ?_
            refine j_lv [3, 4, 5, 6, 0] rfl ?_
            exact ih N415 fo391 len g zs (nI 0) (t + 1) (kc + (1)) (nc + (6)) (by omega) hS415 (by omega) (by omega)
          · skip
            exact absurd ⟨j391, e391, e0_391, e1_391, e2_391, e3_391⟩ hno409
        · skip
          show mp_J Γ m_La_law E κ N391 [(0, .ref b), (1, .ref h), (2, .ref (R 0)), (3, .ref out), (4, .int (nI (6 * t)))] 394 [.int (nI 1)] (kc + (1)) (nc + (6))
          refine j_istore [(5, .int (nI 1)), (0, .ref b), (1, .ref h), (2, .ref (R 0)), (3, .ref out), (4, .int (nI (6 * t)))] d_La_law_394 (by decide) rfl ?_
          refine j_aload_n d_La_law_396 rfl 3 rfl ?_
          refine j_aload_n d_La_law_397 rfl 1 rfl ?_
          refine j_iload d_La_law_398 5 rfl ?_
          refine j_iconst (v := nI 1) d_La_law_400 (by decide) ?_
          refine j_iadd d_La_law_401 ?_
          refine j_eqi (y := nI ((6 * t) + 1)) (nI_add (6 * t) 1) ?_
          refine j_sld hX hbl hbA ((6 * t) + 1) rfl (by omega) (by omega) d_La_law_402 ?_
          refine j_aload_n d_La_law_403 rfl 1 rfl ?_
          refine j_iload d_La_law_404 5 rfl ?_
          refine j_iconst (v := nI 2) d_La_law_406 (by decide) ?_
          refine j_iadd d_La_law_407 ?_
          refine j_eqi (y := nI ((6 * t) + 2)) (nI_add (6 * t) 2) ?_
          refine j_sld hX hbl hbA ((6 * t) + 2) rfl (by omega) (by omega) d_La_law_408 ?_
          obtain ⟨fs409, hr409⟩ := hS391.hr
          refine j_callV (As := [.int (xs ((6 * t) + 1)), .int (xs ((6 * t) + 2))]) (rest := []) (lr_at Γ.l hS391 (xs ((6 * t) + 1)) (xs ((6 * t) + 2))) Y_Mo_at w_1139 w_1140 w_1141 hr409 rfl rfl rfl (Nat.le_of_ble_eq_true rfl) (by omega) (by omega) (by omega) d_La_law_409 (fun v409 N409 p409 => ?_)
          rcases p409 with ⟨j409, e409, e0_409, e1_409, e2_409, e3_409, rfl, hS409⟩ | ⟨hno409, rfl, hS409⟩
          · skip
            exact absurd ⟨j409, e409, e0_409, e1_409, e2_409, e3_409⟩ hno391
          · skip
            show mp_J Γ m_La_law E κ N409 [(5, .int (nI 1)), (0, .ref b), (1, .ref h), (2, .ref (R 0)), (3, .ref out), (4, .int (nI (6 * t)))] 412 [.int (nI 0)] (kc + (1)) (nc + (6))
            refine j_istore [(6, .int (nI 0)), (5, .int (nI 1)), (0, .ref b), (1, .ref h), (2, .ref (R 0)), (3, .ref out), (4, .int (nI (6 * t)))] d_La_law_412 (by decide) rfl ?_
            refine j_aload_n d_La_law_414 rfl 4 rfl ?_
            obtain ⟨fs415, hr415⟩ := hS409.hr
            refine j_callV (As := []) (rest := []) (lr_thrown Γ.l hS409) Y_Mo_thrown w_990 w_991 w_992 hr415 rfl rfl rfl (Nat.le_of_ble_eq_true rfl) (by omega) (by omega) (by omega) d_La_law_415 (fun v415 N415 p415 => ?_)
            obtain ⟨rfl, hS415⟩ := p415
            show mp_J Γ m_La_law E κ N415 [(6, .int (nI 0)), (5, .int (nI 1)), (0, .ref b), (1, .ref h), (2, .ref (R 0)), (3, .ref out), (4, .int (nI (6 * t)))] 418 [.int (nI 1)] (kc + (1)) (nc + (6))
            refine j_iload d_La_law_418 1 rfl ?_
            refine j_ncmp_eq 425 1 1 rfl rfl (by omega) (by omega) d_La_law_420 (by decide) (fun b420 => ?_) (fun b420 => (by first | exact b420.elim | exact absurd b420 (by omega)))
            refine j_iload d_La_law_425 1 rfl ?_
            refine j_nif_ne 442 1 rfl (by omega) d_La_law_427 (by decide) (fun b427 => ?_) (fun b427 => (by first | exact b427.elim | exact absurd b427 (by omega)))
            refine j_goto (tgt := 625) d_La_law_442 (by decide) ?_
            refine j_iinc (v := nI (6 * (t + 1))) [(4, .int (nI (6 * (t + 1)))), (6, .int (nI 0)), (5, .int (nI 1)), (0, .ref b), (1, .ref h), (2, .ref (R 0)), (3, .ref out)] d_La_law_625 6 rfl (nI_add (6 * t) 6) (by decide) rfl ?_
            refine j_goto (tgt := 23) d_La_law_628 (by decide) ?_
            refine j_lv [3, 4, 5, 6, 0] rfl ?_
            exact ih N415 fo len g zs (nI 1) (t + 1) (kc + (1)) (nc + (6)) (by omega) hS415 (by omega) (by omega)
      · skip
        refine j_tableIn 445 d_La_law_40 (by decide) (by decide) rfl (by decide) ?_
        refine j_aload_n d_La_law_445 rfl 1 rfl ?_
        refine j_aload_n d_La_law_446 rfl 0 rfl ?_
        refine j_iload d_La_law_447 4 rfl ?_
        refine j_iconst (v := nI 1) d_La_law_449 (by decide) ?_
        refine j_iadd d_La_law_450 ?_
        refine j_eqi (y := nI ((6 * t) + 1)) (nI_add (6 * t) 1) ?_
        refine j_sld hX hbl hbA ((6 * t) + 1) rfl (by omega) (by omega) d_La_law_451 ?_
        refine j_aload_n d_La_law_452 rfl 3 rfl ?_
        refine j_callSW (As := [.ref h, .int (xs ((6 * t) + 1)), .ref out]) (rest := []) (c_La_number Γ.l hl0 hS (xs ((6 * t) + 1))) Yw_La_number w_883 w_884 rfl rfl (Nat.le_of_ble_eq_true rfl) (by omega) (by omega) (by omega) d_La_law_453 (fun v453 N453 p453 => ?_)
        rcases p453 with ⟨j453, e0_453, e1_453, e2_453, rfl, fo453, hfo453, hS453⟩ | ⟨hno453, rfl, hS453⟩ | ⟨hno453, rfl, hS453⟩
        · skip
          show mp_J Γ m_La_law E κ N453 [(0, .ref b), (1, .ref h), (2, .ref (R 0)), (3, .ref out), (4, .int (nI (6 * t)))] 456 [.int (nI 0)] (kc + (1)) (nc + (6))
          refine j_istore [(5, .int (nI 0)), (0, .ref b), (1, .ref h), (2, .ref (R 0)), (3, .ref out), (4, .int (nI (6 * t)))] d_La_law_456 (by decide) rfl ?_
          refine j_aload_n d_La_law_458 rfl 3 rfl ?_
          refine j_aload_n d_La_law_459 rfl 1 rfl ?_
          refine j_iload d_La_law_460 5 rfl ?_
          refine j_iconst (v := nI 1) d_La_law_462 (by decide) ?_
          refine j_iadd d_La_law_463 ?_
          refine j_eqi (y := nI ((6 * t) + 1)) (nI_add (6 * t) 1) ?_
          refine j_sld hX hbl hbA ((6 * t) + 1) rfl (by omega) (by omega) d_La_law_464 ?_
          obtain ⟨fs465, hr465⟩ := hS453.hr
          refine j_callV (As := [.int (xs ((6 * t) + 1))]) (rest := []) (lr_number Γ.l hS453 (xs ((6 * t) + 1))) Y_Mo_number w_1143 w_1144 w_1145 hr465 rfl rfl rfl (Nat.le_of_ble_eq_true rfl) (by omega) (by omega) (by omega) d_La_law_465 (fun v465 N465 p465 => ?_)
          rcases p465 with ⟨j465, e0_465, e1_465, e2_465, rfl, hS465⟩ | ⟨hno465, rfl, hS465⟩ | ⟨hno465, rfl, hS465⟩
          · skip
            have j0_465 : j465 = j453 := am_nIinj (by first | omega | (have h9 := hlim e0_465; omega) | (split at e0_465 <;> omega)) (by first | omega | (have h9 := hlim e0_453; omega) | (split at e0_453 <;> omega)) (e1_465.symm.trans e1_453)
            subst j0_465
            show mp_J Γ m_La_law E κ N465 [(5, .int (nI 0)), (0, .ref b), (1, .ref h), (2, .ref (R 0)), (3, .ref out), (4, .int (nI (6 * t)))] 468 [.int ((am_num (zs.getD j465 [])).toInt32)] (kc + (1)) (nc + (6))
            refine j_istore [(6, .int ((am_num (zs.getD j465 [])).toInt32)), (5, .int (nI 0)), (0, .ref b), (1, .ref h), (2, .ref (R 0)), (3, .ref out), (4, .int (nI (6 * t)))] d_La_law_468 (by decide) rfl ?_
            refine j_aload_n d_La_law_470 rfl 4 rfl ?_
            obtain ⟨fs471, hr471⟩ := hS465.hr
            refine j_callV (As := []) (rest := []) (lr_thrown Γ.l hS465) Y_Mo_thrown w_990 w_991 w_992 hr471 rfl rfl rfl (Nat.le_of_ble_eq_true rfl) (by omega) (by omega) (by omega) d_La_law_471 (fun v471 N471 p471 => ?_)
            obtain ⟨rfl, hS471⟩ := p471
            show mp_J Γ m_La_law E κ N471 [(6, .int ((am_num (zs.getD j465 [])).toInt32)), (5, .int (nI 0)), (0, .ref b), (1, .ref h), (2, .ref (R 0)), (3, .ref out), (4, .int (nI (6 * t)))] 474 [.int (nI 0)] (kc + (1)) (nc + (6))
            refine j_iload d_La_law_474 1 rfl ?_
            refine j_ncmp_eq 481 0 0 rfl rfl (by omega) (by omega) d_La_law_476 (by decide) (fun b476 => ?_) (fun b476 => (by first | exact b476.elim | exact absurd b476 (by omega)))
            refine j_iload d_La_law_481 1 rfl ?_
            refine j_nif_ne 498 0 rfl (by omega) d_La_law_483 (by decide) (fun b483 => (by first | exact b483.elim | exact absurd b483 (by omega))) (fun b483 => ?_)
            refine j_aload_n d_La_law_486 rfl 5 rfl ?_
            refine j_iconst (v := nI 0) d_La_law_487 (by decide) ?_
            refine j_lald hS471.ho 0 rfl (by omega) (by omega) d_La_law_488 ?_
            refine j_eql (y := ((am_num (zs.getD j465 [])).toInt32).toInt64) hfo453 ?_
            refine j_iload d_La_law_489 0 rfl ?_
            refine j_i2l d_La_law_491 ?_
            refine j_lcmp d_La_law_492 ?_
            refine j_if_eq 498 d_La_law_493 (by decide) (fun b493 => ?_) (fun b493 => absurd ((lg_cmp_eq _ _).mpr rfl) b493)
            refine j_goto (tgt := 625) d_La_law_498 (by decide) ?_
            refine j_iinc (v := nI (6 * (t + 1))) [(4, .int (nI (6 * (t + 1)))), (6, .int ((am_num (zs.getD j465 [])).toInt32)), (5, .int (nI 0)), (0, .ref b), (1, .ref h), (2, .ref (R 0)), (3, .ref out)] d_La_law_625 6 rfl (nI_add (6 * t) 6) (by decide) rfl ?_
            refine j_goto (tgt := 23) d_La_law_628 (by decide) ?_
            refine j_lv [3, 4, 5, 6, 0] rfl ?_
            exact ih N471 fo453 len g zs (nI 0) (t + 1) (kc + (1)) (nc + (6)) (by omega) hS471 (by omega) (by omega)
          · skip
            exact absurd ⟨j453, e0_453, e1_453⟩ hno465
          · skip
            obtain ⟨jz, z1, z2, z3⟩ := hno465
            exact absurd (by rw [am_nIinj (i := jz) (j := j453) (by omega) (by omega) (z2.symm.trans e1_453)] at z3; exact e2_453) (fun z => z3 (by rw [am_nIinj (i := jz) (j := j453) (by omega) (by omega) (z2.symm.trans e1_453)]; exact z))
        · skip
          show mp_J Γ m_La_law E κ N453 [(0, .ref b), (1, .ref h), (2, .ref (R 0)), (3, .ref out), (4, .int (nI (6 * t)))] 456 [.int (nI 1)] (kc + (1)) (nc + (6))
          refine j_istore [(5, .int (nI 1)), (0, .ref b), (1, .ref h), (2, .ref (R 0)), (3, .ref out), (4, .int (nI (6 * t)))] d_La_law_456 (by decide) rfl ?_
          refine j_aload_n d_La_law_458 rfl 3 rfl ?_
          refine j_aload_n d_La_law_459 rfl 1 rfl ?_
          refine j_iload d_La_law_460 5 rfl ?_
          refine j_iconst (v := nI 1) d_La_law_462 (by decide) ?_
          refine j_iadd d_La_law_463 ?_
          refine j_eqi (y := nI ((6 * t) + 1)) (nI_add (6 * t) 1) ?_
          refine j_sld hX hbl hbA ((6 * t) + 1) rfl (by omega) (by omega) d_La_law_464 ?_
          obtain ⟨fs465, hr465⟩ := hS453.hr
          refine j_callV (As := [.int (xs ((6 * t) + 1))]) (rest := []) (lr_number Γ.l hS453 (xs ((6 * t) + 1))) Y_Mo_number w_1143 w_1144 w_1145 hr465 rfl rfl rfl (Nat.le_of_ble_eq_true rfl) (by omega) (by omega) (by omega) d_La_law_465 (fun v465 N465 p465 => ?_)
          rcases p465 with ⟨j465, e0_465, e1_465, e2_465, rfl, hS465⟩ | ⟨hno465, rfl, hS465⟩ | ⟨hno465, rfl, hS465⟩
          · skip
            exact absurd ⟨j465, e0_465, e1_465⟩ hno453
          · skip
            show mp_J Γ m_La_law E κ N465 [(5, .int (nI 1)), (0, .ref b), (1, .ref h), (2, .ref (R 0)), (3, .ref out), (4, .int (nI (6 * t)))] 468 [.int (nI 0)] (kc + (1)) (nc + (6))
            refine j_istore [(6, .int (nI 0)), (5, .int (nI 1)), (0, .ref b), (1, .ref h), (2, .ref (R 0)), (3, .ref out), (4, .int (nI (6 * t)))] d_La_law_468 (by decide) rfl ?_
            refine j_aload_n d_La_law_470 rfl 4 rfl ?_
            obtain ⟨fs471, hr471⟩ := hS465.hr
            refine j_callV (As := []) (rest := []) (lr_thrown Γ.l hS465) Y_Mo_thrown w_990 w_991 w_992 hr471 rfl rfl rfl (Nat.le_of_ble_eq_true rfl) (by omega) (by omega) (by omega) d_La_law_471 (fun v471 N471 p471 => ?_)
            obtain ⟨rfl, hS471⟩ := p471
            show mp_J Γ m_La_law E κ N471 [(6, .int (nI 0)), (5, .int (nI 1)), (0, .ref b), (1, .ref h), (2, .ref (R 0)), (3, .ref out), (4, .int (nI (6 * t)))] 474 [.int (nI 1)] (kc + (1)) (nc + (6))
            refine j_iload d_La_law_474 1 rfl ?_
            refine j_ncmp_eq 481 1 1 rfl rfl (by omega) (by omega) d_La_law_476 (by decide) (fun b476 => ?_) (fun b476 => (by first | exact b476.elim | exact absurd b476 (by omega)))
            refine j_iload d_La_law_481 1 rfl ?_
            refine j_nif_ne 498 1 rfl (by omega) d_La_law_483 (by decide) (fun b483 => ?_) (fun b483 => (by first | exact b483.elim | exact absurd b483 (by omega)))
            refine j_goto (tgt := 625) d_La_law_498 (by decide) ?_
            refine j_iinc (v := nI (6 * (t + 1))) [(4, .int (nI (6 * (t + 1)))), (6, .int (nI 0)), (5, .int (nI 1)), (0, .ref b), (1, .ref h), (2, .ref (R 0)), (3, .ref out)] d_La_law_625 6 rfl (nI_add (6 * t) 6) (by decide) rfl ?_
            refine j_goto (tgt := 23) d_La_law_628 (by decide) ?_
            refine j_lv [3, 4, 5, 6, 0] rfl ?_
            exact ih N471 fo len g zs (nI 1) (t + 1) (kc + (1)) (nc + (6)) (by omega) hS471 (by omega) (by omega)
          · skip
            obtain ⟨jz, z1, z2, z3⟩ := hno465
            exact absurd ⟨jz, z1, z2⟩ hno453
        · skip
          show mp_J Γ m_La_law E κ N453 [(0, .ref b), (1, .ref h), (2, .ref (R 0)), (3, .ref out), (4, .int (nI (6 * t)))] 456 [.int (nI 2)] (kc + (1)) (nc + (6))
          refine j_istore [(5, .int (nI 2)), (0, .ref b), (1, .ref h), (2, .ref (R 0)), (3, .ref out), (4, .int (nI (6 * t)))] d_La_law_456 (by decide) rfl ?_
          refine j_aload_n d_La_law_458 rfl 3 rfl ?_
          refine j_aload_n d_La_law_459 rfl 1 rfl ?_
          refine j_iload d_La_law_460 5 rfl ?_
          refine j_iconst (v := nI 1) d_La_law_462 (by decide) ?_
          refine j_iadd d_La_law_463 ?_
          refine j_eqi (y := nI ((6 * t) + 1)) (nI_add (6 * t) 1) ?_
          refine j_sld hX hbl hbA ((6 * t) + 1) rfl (by omega) (by omega) d_La_law_464 ?_
          obtain ⟨fs465, hr465⟩ := hS453.hr
          refine j_callV (As := [.int (xs ((6 * t) + 1))]) (rest := []) (lr_number Γ.l hS453 (xs ((6 * t) + 1))) Y_Mo_number w_1143 w_1144 w_1145 hr465 rfl rfl rfl (Nat.le_of_ble_eq_true rfl) (by omega) (by omega) (by omega) d_La_law_465 (fun v465 N465 p465 => ?_)
          rcases p465 with ⟨j465, e0_465, e1_465, e2_465, rfl, hS465⟩ | ⟨hno465, rfl, hS465⟩ | ⟨hno465, rfl, hS465⟩
          · skip
            obtain ⟨jz, z1, z2, z3⟩ := hno453
            exact absurd e2_465 (by rw [← am_nIinj (i := jz) (j := j465) (by omega) (by omega) (z2.symm.trans e1_465)]; exact z3)
          · skip
            obtain ⟨jz, z1, z2, z3⟩ := hno453
            exact absurd ⟨jz, z1, z2⟩ hno465
          · skip
            show mp_J Γ m_La_law E κ N465 [(5, .int (nI 2)), (0, .ref b), (1, .ref h), (2, .ref (R 0)), (3, .ref out), (4, .int (nI (6 * t)))] 468 [.int (nI 0)] (kc + (1)) (nc + (6))
            refine j_istore [(6, .int (nI 0)), (5, .int (nI 2)), (0, .ref b), (1, .ref h), (2, .ref (R 0)), (3, .ref out), (4, .int (nI (6 * t)))] d_La_law_468 (by decide) rfl ?_
            refine j_aload_n d_La_law_470 rfl 4 rfl ?_
            obtain ⟨fs471, hr471⟩ := hS465.hr
            refine j_callV (As := []) (rest := []) (lr_thrown Γ.l hS465) Y_Mo_thrown w_990 w_991 w_992 hr471 rfl rfl rfl (Nat.le_of_ble_eq_true rfl) (by omega) (by omega) (by omega) d_La_law_471 (fun v471 N471 p471 => ?_)
            obtain ⟨rfl, hS471⟩ := p471
            show mp_J Γ m_La_law E κ N471 [(6, .int (nI 0)), (5, .int (nI 2)), (0, .ref b), (1, .ref h), (2, .ref (R 0)), (3, .ref out), (4, .int (nI (6 * t)))] 474 [.int (nI 2)] (kc + (1)) (nc + (6))
            refine j_iload d_La_law_474 1 rfl ?_
            refine j_ncmp_eq 481 2 2 rfl rfl (by omega) (by omega) d_La_law_476 (by decide) (fun b476 => ?_) (fun b476 => (by first | exact b476.elim | exact absurd b476 (by omega)))
            refine j_iload d_La_law_481 1 rfl ?_
            refine j_nif_ne 498 2 rfl (by omega) d_La_law_483 (by decide) (fun b483 => ?_) (fun b483 => (by first | exact b483.elim | exact absurd b483 (by omega)))
            refine j_goto (tgt := 625) d_La_law_498 (by decide) ?_
            refine j_iinc (v := nI (6 * (t + 1))) [(4, .int (nI (6 * (t + 1)))), (6, .int (nI 0)), (5, .int (nI 2)), (0, .ref b), (1, .ref h), (2, .ref (R 0)), (3, .ref out)] d_La_law_625 6 rfl (nI_add (6 * t) 6) (by decide) rfl ?_
            refine j_goto (tgt := 23) d_La_law_628 (by decide) ?_
            refine j_lv [3, 4, 5, 6, 0] rfl ?_
            exact ih N471 fo len g zs (nI 2) (t + 1) (kc + (1)) (nc + (6)) (by omega) hS471 (by omega) (by omega)
      · skip
        refine j_tableIn 501 d_La_law_40 (by decide) (by decide) rfl (by decide) ?_
        refine j_aload_n d_La_law_501 rfl 1 rfl ?_
        refine j_aload_n d_La_law_502 rfl 0 rfl ?_
        refine j_iload d_La_law_503 4 rfl ?_
        refine j_iconst (v := nI 1) d_La_law_505 (by decide) ?_
        refine j_iadd d_La_law_506 ?_
        refine j_eqi (y := nI ((6 * t) + 1)) (nI_add (6 * t) 1) ?_
        refine j_sld hX hbl hbA ((6 * t) + 1) rfl (by omega) (by omega) d_La_law_507 ?_
        refine j_aload_n d_La_law_508 rfl 3 rfl ?_
        refine j_callSW (As := [.ref h, .int (xs ((6 * t) + 1)), .ref out]) (rest := []) (c_La_sigs Γ.l hl0 hS (xs ((6 * t) + 1))) Yw_La_sigs w_908 w_909 rfl rfl (Nat.le_of_ble_eq_true rfl) (by omega) (by omega) (by omega) d_La_law_509 (fun v509 N509 p509 => ?_)
        rcases p509 with ⟨j509, e0_509, e1_509, rfl, fo509, hfo509, hS509⟩ | ⟨hno509, rfl, hS509⟩
        · skip
          show mp_J Γ m_La_law E κ N509 [(0, .ref b), (1, .ref h), (2, .ref (R 0)), (3, .ref out), (4, .int (nI (6 * t)))] 512 [.int (nI 0)] (kc + (1)) (nc + (6))
          refine j_istore [(5, .int (nI 0)), (0, .ref b), (1, .ref h), (2, .ref (R 0)), (3, .ref out), (4, .int (nI (6 * t)))] d_La_law_512 (by decide) rfl ?_
          refine j_aload_n d_La_law_514 rfl 3 rfl ?_
          refine j_aload_n d_La_law_515 rfl 1 rfl ?_
          refine j_iload d_La_law_516 5 rfl ?_
          refine j_iconst (v := nI 1) d_La_law_518 (by decide) ?_
          refine j_iadd d_La_law_519 ?_
          refine j_eqi (y := nI ((6 * t) + 1)) (nI_add (6 * t) 1) ?_
          refine j_sld hX hbl hbA ((6 * t) + 1) rfl (by omega) (by omega) d_La_law_520 ?_
          obtain ⟨fs521, hr521⟩ := hS509.hr
          refine j_callV (As := [.int (xs ((6 * t) + 1))]) (rest := []) (lr_sigs Γ.l hS509 (xs ((6 * t) + 1))) Y_Mo_sigs w_1147 w_1148 w_1149 hr521 rfl rfl rfl (Nat.le_of_ble_eq_true rfl) (by omega) (by omega) (by omega) d_La_law_521 (fun v521 N521 p521 => ?_)
          rcases p521 with ⟨j521, e0_521, e1_521, rfl, hS521⟩ | ⟨hno521, rfl, hS521⟩
          · skip
            have j0_521 : j521 = j509 := am_nIinj (by first | omega | (have h9 := hlim e0_521; omega) | (split at e0_521 <;> omega)) (by first | omega | (have h9 := hlim e0_509; omega) | (split at e0_509 <;> omega)) (e1_521.symm.trans e1_509)
            subst j0_521
            show mp_J Γ m_La_law E κ N521 [(5, .int (nI 0)), (0, .ref b), (1, .ref h), (2, .ref (R 0)), (3, .ref out), (4, .int (nI (6 * t)))] 524 [.int (nI (sg_run g j521 (j521 + 1) 0 0))] (kc + (1)) (nc + (6))
            refine j_istore [(6, .int (nI (sg_run g j521 (j521 + 1) 0 0))), (5, .int (nI 0)), (0, .ref b), (1, .ref h), (2, .ref (R 0)), (3, .ref out), (4, .int (nI (6 * t)))] d_La_law_524 (by decide) rfl ?_
            refine j_aload_n d_La_law_526 rfl 4 rfl ?_
            obtain ⟨fs527, hr527⟩ := hS521.hr
            refine j_callV (As := []) (rest := []) (lr_thrown Γ.l hS521) Y_Mo_thrown w_990 w_991 w_992 hr527 rfl rfl rfl (Nat.le_of_ble_eq_true rfl) (by omega) (by omega) (by omega) d_La_law_527 (fun v527 N527 p527 => ?_)
            obtain ⟨rfl, hS527⟩ := p527
            show mp_J Γ m_La_law E κ N527 [(6, .int (nI (sg_run g j521 (j521 + 1) 0 0))), (5, .int (nI 0)), (0, .ref b), (1, .ref h), (2, .ref (R 0)), (3, .ref out), (4, .int (nI (6 * t)))] 530 [.int (nI 0)] (kc + (1)) (nc + (6))
            refine j_iload d_La_law_530 1 rfl ?_
            refine j_ncmp_eq 537 0 0 rfl rfl (by omega) (by omega) d_La_law_532 (by decide) (fun b532 => ?_) (fun b532 => (by first | exact b532.elim | exact absurd b532 (by omega)))
            refine j_iload d_La_law_537 1 rfl ?_
            refine j_nif_ne 554 0 rfl (by omega) d_La_law_539 (by decide) (fun b539 => (by first | exact b539.elim | exact absurd b539 (by omega))) (fun b539 => ?_)
            refine j_aload_n d_La_law_542 rfl 5 rfl ?_
            refine j_iconst (v := nI 0) d_La_law_543 (by decide) ?_
            refine j_lald hS527.ho 0 rfl (by omega) (by omega) d_La_law_544 ?_
            refine j_eql (y := (nI (sg_run g j521 (j521 + 1) 0 0)).toInt64) hfo509 ?_
            refine j_iload d_La_law_545 0 rfl ?_
            refine j_i2l d_La_law_547 ?_
            refine j_lcmp d_La_law_548 ?_
            refine j_if_eq 554 d_La_law_549 (by decide) (fun b549 => ?_) (fun b549 => absurd ((lg_cmp_eq _ _).mpr rfl) b549)
            refine j_goto (tgt := 625) d_La_law_554 (by decide) ?_
            refine j_iinc (v := nI (6 * (t + 1))) [(4, .int (nI (6 * (t + 1)))), (6, .int (nI (sg_run g j521 (j521 + 1) 0 0))), (5, .int (nI 0)), (0, .ref b), (1, .ref h), (2, .ref (R 0)), (3, .ref out)] d_La_law_625 6 rfl (nI_add (6 * t) 6) (by decide) rfl ?_
            refine j_goto (tgt := 23) d_La_law_628 (by decide) ?_
            refine j_lv [3, 4, 5, 6, 0] rfl ?_
            exact ih N527 fo509 len g zs (nI 0) (t + 1) (kc + (1)) (nc + (6)) (by omega) hS527 (by omega) (by omega)
          · skip
            exact absurd ⟨j509, e0_509, e1_509⟩ hno521
        · skip
          show mp_J Γ m_La_law E κ N509 [(0, .ref b), (1, .ref h), (2, .ref (R 0)), (3, .ref out), (4, .int (nI (6 * t)))] 512 [.int (nI 1)] (kc + (1)) (nc + (6))
          refine j_istore [(5, .int (nI 1)), (0, .ref b), (1, .ref h), (2, .ref (R 0)), (3, .ref out), (4, .int (nI (6 * t)))] d_La_law_512 (by decide) rfl ?_
          refine j_aload_n d_La_law_514 rfl 3 rfl ?_
          refine j_aload_n d_La_law_515 rfl 1 rfl ?_
          refine j_iload d_La_law_516 5 rfl ?_
          refine j_iconst (v := nI 1) d_La_law_518 (by decide) ?_
          refine j_iadd d_La_law_519 ?_
          refine j_eqi (y := nI ((6 * t) + 1)) (nI_add (6 * t) 1) ?_
          refine j_sld hX hbl hbA ((6 * t) + 1) rfl (by omega) (by omega) d_La_law_520 ?_
          obtain ⟨fs521, hr521⟩ := hS509.hr
          refine j_callV (As := [.int (xs ((6 * t) + 1))]) (rest := []) (lr_sigs Γ.l hS509 (xs ((6 * t) + 1))) Y_Mo_sigs w_1147 w_1148 w_1149 hr521 rfl rfl rfl (Nat.le_of_ble_eq_true rfl) (by omega) (by omega) (by omega) d_La_law_521 (fun v521 N521 p521 => ?_)
          rcases p521 with ⟨j521, e0_521, e1_521, rfl, hS521⟩ | ⟨hno521, rfl, hS521⟩
          · skip
            exact absurd ⟨j521, e0_521, e1_521⟩ hno509
          · skip
            show mp_J Γ m_La_law E κ N521 [(5, .int (nI 1)), (0, .ref b), (1, .ref h), (2, .ref (R 0)), (3, .ref out), (4, .int (nI (6 * t)))] 524 [.int (nI 0)] (kc + (1)) (nc + (6))
            refine j_istore [(6, .int (nI 0)), (5, .int (nI 1)), (0, .ref b), (1, .ref h), (2, .ref (R 0)), (3, .ref out), (4, .int (nI (6 * t)))] d_La_law_524 (by decide) rfl ?_
            refine j_aload_n d_La_law_526 rfl 4 rfl ?_
            obtain ⟨fs527, hr527⟩ := hS521.hr
            refine j_callV (As := []) (rest := []) (lr_thrown Γ.l hS521) Y_Mo_thrown w_990 w_991 w_992 hr527 rfl rfl rfl (Nat.le_of_ble_eq_true rfl) (by omega) (by omega) (by omega) d_La_law_527 (fun v527 N527 p527 => ?_)
            obtain ⟨rfl, hS527⟩ := p527
            show mp_J Γ m_La_law E κ N527 [(6, .int (nI 0)), (5, .int (nI 1)), (0, .ref b), (1, .ref h), (2, .ref (R 0)), (3, .ref out), (4, .int (nI (6 * t)))] 530 [.int (nI 1)] (kc + (1)) (nc + (6))
            refine j_iload d_La_law_530 1 rfl ?_
            refine j_ncmp_eq 537 1 1 rfl rfl (by omega) (by omega) d_La_law_532 (by decide) (fun b532 => ?_) (fun b532 => (by first | exact b532.elim | exact absurd b532 (by omega)))
            refine j_iload d_La_law_537 1 rfl ?_
            refine j_nif_ne 554 1 rfl (by omega) d_La_law_539 (by decide) (fun b539 => ?_) (fun b539 => (by first | exact b539.elim | exact absurd b539 (by omega)))
            refine j_goto (tgt := 625) d_La_law_554 (by decide) ?_
            refine j_iinc (v := nI (6 * (t + 1))) [(4, .int (nI (6 * (t + 1)))), (6, .int (nI 0)), (5, .int (nI 1)), (0, .ref b), (1, .ref h), (2, .ref (R 0)), (3, .ref out)] d_La_law_625 6 rfl (nI_add (6 * t) 6) (by decide) rfl ?_
            refine j_goto (tgt := 23) d_La_law_628 (by decide) ?_
            refine j_lv [3, 4, 5, 6, 0] rfl ?_
            exact ih N527 fo len g zs (nI 1) (t + 1) (kc + (1)) (nc + (6)) (by omega) hS527 (by omega) (by omega)
      · skip
        refine j_tableIn 557 d_La_law_40 (by decide) (by decide) rfl (by decide) ?_
        refine j_aload_n d_La_law_557 rfl 1 rfl ?_
        refine j_aload_n d_La_law_558 rfl 0 rfl ?_
        refine j_iload d_La_law_559 4 rfl ?_
        refine j_iconst (v := nI 1) d_La_law_561 (by decide) ?_
        refine j_iadd d_La_law_562 ?_
        refine j_eqi (y := nI ((6 * t) + 1)) (nI_add (6 * t) 1) ?_
        refine j_sld hX hbl hbA ((6 * t) + 1) rfl (by omega) (by omega) d_La_law_563 ?_
        refine j_aload_n d_La_law_564 rfl 0 rfl ?_
        refine j_iload d_La_law_565 4 rfl ?_
        refine j_iconst (v := nI 2) d_La_law_567 (by decide) ?_
        refine j_iadd d_La_law_568 ?_
        refine j_eqi (y := nI ((6 * t) + 2)) (nI_add (6 * t) 2) ?_
        refine j_sld hX hbl hbA ((6 * t) + 2) rfl (by omega) (by omega) d_La_law_569 ?_
        refine j_aload_n d_La_law_570 rfl 3 rfl ?_
        refine j_callSW (As := [.ref h, .int (xs ((6 * t) + 1)), .int (xs ((6 * t) + 2)), .ref out]) (rest := []) (c_La_hash Γ.l hl0 hS (xs ((6 * t) + 1)) (xs ((6 * t) + 2))) Yw_La_hash w_919 w_920 rfl rfl (Nat.le_of_ble_eq_true rfl) (by omega) (by omega) (by omega) d_La_law_571 (fun v571 N571 p571 => ?_)
        rcases p571 with ⟨w571, r571, e0_571, e1_571, e2_571, e3_571, rfl, fo571, hfo571, hS571⟩ | ⟨hno571, rfl, hS571⟩
        · skip
          show mp_J Γ m_La_law E κ N571 [(0, .ref b), (1, .ref h), (2, .ref (R 0)), (3, .ref out), (4, .int (nI (6 * t)))] 574 [.int (nI 0)] (kc + (4)) (nc + (66))
          refine j_istore [(5, .int (nI 0)), (0, .ref b), (1, .ref h), (2, .ref (R 0)), (3, .ref out), (4, .int (nI (6 * t)))] d_La_law_574 (by decide) rfl ?_
          refine j_aload_n d_La_law_576 rfl 3 rfl ?_
          refine j_aload_n d_La_law_577 rfl 1 rfl ?_
          refine j_iload d_La_law_578 5 rfl ?_
          refine j_iconst (v := nI 1) d_La_law_580 (by decide) ?_
          refine j_iadd d_La_law_581 ?_
          refine j_eqi (y := nI ((6 * t) + 1)) (nI_add (6 * t) 1) ?_
          refine j_sld hX hbl hbA ((6 * t) + 1) rfl (by omega) (by omega) d_La_law_582 ?_
          refine j_aload_n d_La_law_583 rfl 1 rfl ?_
          refine j_iload d_La_law_584 5 rfl ?_
          refine j_iconst (v := nI 2) d_La_law_586 (by decide) ?_
          refine j_iadd d_La_law_587 ?_
          refine j_eqi (y := nI ((6 * t) + 2)) (nI_add (6 * t) 2) ?_
          refine j_sld hX hbl hbA ((6 * t) + 2) rfl (by omega) (by omega) d_La_law_588 ?_
          obtain ⟨fs589, hr589⟩ := hS571.hr
          refine j_callV (As := [.int (xs ((6 * t) + 1)), .int (xs ((6 * t) + 2))]) (rest := []) (lr_hash Γ.l hS571 (xs ((6 * t) + 1)) (xs ((6 * t) + 2))) Y_Mo_hash w_1151 w_1152 w_1153 hr589 rfl rfl rfl (Nat.le_of_ble_eq_true rfl) (by omega) (by omega) (by omega) d_La_law_589 (fun v589 N589 p589 => ?_)
          rcases p589 with ⟨w589, r589, e0_589, e1_589, e2_589, e3_589, rfl, hS589⟩ | ⟨hno589, rfl, hS589⟩
          · skip
            have j0_589 : w589 = w571 := am_nIinj (by first | omega | (have h9 := hlim e0_589; omega) | (split at e0_589 <;> omega)) (by first | omega | (have h9 := hlim e0_571; omega) | (split at e0_571 <;> omega)) (e1_589.symm.trans e1_571)
            subst j0_589
            have j1_589 : r589 = r571 := am_nIinj (by first | omega | (have h9 := hlim e2_589; omega) | (split at e2_589 <;> omega)) (by first | omega | (have h9 := hlim e2_571; omega) | (split at e2_571 <;> omega)) (e3_589.symm.trans e3_571)
            subst j1_589
            show mp_J Γ m_La_law E κ N589 [(5, .int (nI 0)), (0, .ref b), (1, .ref h), (2, .ref (R 0)), (3, .ref out), (4, .int (nI (6 * t)))] 592 [.int (th_w (am_hs g len w589).length (gb (am_hs g len w589)) r589 4)] (kc + (4)) (nc + (66))
            refine j_istore [(6, .int (th_w (am_hs g len w589).length (gb (am_hs g len w589)) r589 4)), (5, .int (nI 0)), (0, .ref b), (1, .ref h), (2, .ref (R 0)), (3, .ref out), (4, .int (nI (6 * t)))] d_La_law_592 (by decide) rfl ?_
            refine j_aload_n d_La_law_594 rfl 4 rfl ?_
            obtain ⟨fs595, hr595⟩ := hS589.hr
            refine j_callV (As := []) (rest := []) (lr_thrown Γ.l hS589) Y_Mo_thrown w_990 w_991 w_992 hr595 rfl rfl rfl (Nat.le_of_ble_eq_true rfl) (by omega) (by omega) (by omega) d_La_law_595 (fun v595 N595 p595 => ?_)
            obtain ⟨rfl, hS595⟩ := p595
            show mp_J Γ m_La_law E κ N595 [(6, .int (th_w (am_hs g len w589).length (gb (am_hs g len w589)) r589 4)), (5, .int (nI 0)), (0, .ref b), (1, .ref h), (2, .ref (R 0)), (3, .ref out), (4, .int (nI (6 * t)))] 598 [.int (nI 0)] (kc + (4)) (nc + (66))
            refine j_iload d_La_law_598 1 rfl ?_
            refine j_ncmp_eq 605 0 0 rfl rfl (by omega) (by omega) d_La_law_600 (by decide) (fun b600 => ?_) (fun b600 => (by first | exact b600.elim | exact absurd b600 (by omega)))
            refine j_iload d_La_law_605 1 rfl ?_
            refine j_nif_ne 622 0 rfl (by omega) d_La_law_607 (by decide) (fun b607 => (by first | exact b607.elim | exact absurd b607 (by omega))) (fun b607 => ?_)
            refine j_aload_n d_La_law_610 rfl 5 rfl ?_
            refine j_iconst (v := nI 0) d_La_law_611 (by decide) ?_
            refine j_lald hS595.ho 0 rfl (by omega) (by omega) d_La_law_612 ?_
            refine j_eql (y := (th_w (am_hs g len w589).length (gb (am_hs g len w589)) r589 4).toInt64) hfo571 ?_
            refine j_iload d_La_law_613 0 rfl ?_
            refine j_i2l d_La_law_615 ?_
            refine j_lcmp d_La_law_616 ?_
            refine j_if_eq 622 d_La_law_617 (by decide) (fun b617 => ?_) (fun b617 => absurd ((lg_cmp_eq _ _).mpr rfl) b617)
            refine j_goto (tgt := 625) d_La_law_622 (by decide) ?_
            refine j_iinc (v := nI (6 * (t + 1))) [(4, .int (nI (6 * (t + 1)))), (6, .int (th_w (am_hs g len w589).length (gb (am_hs g len w589)) r589 4)), (5, .int (nI 0)), (0, .ref b), (1, .ref h), (2, .ref (R 0)), (3, .ref out)] d_La_law_625 6 rfl (nI_add (6 * t) 6) (by decide) rfl ?_
            refine j_goto (tgt := 23) d_La_law_628 (by decide) ?_
            refine j_lv [3, 4, 5, 6, 0] rfl ?_
            exact ih N595 fo571 len g zs (nI 0) (t + 1) (kc + (4)) (nc + (66)) (by omega) hS595 (by omega) (by omega)
          · skip
            exact absurd ⟨w571, r571, e0_571, e1_571, e2_571, e3_571⟩ hno589
        · skip
          show mp_J Γ m_La_law E κ N571 [(0, .ref b), (1, .ref h), (2, .ref (R 0)), (3, .ref out), (4, .int (nI (6 * t)))] 574 [.int (nI 1)] (kc + (4)) (nc + (66))
          refine j_istore [(5, .int (nI 1)), (0, .ref b), (1, .ref h), (2, .ref (R 0)), (3, .ref out), (4, .int (nI (6 * t)))] d_La_law_574 (by decide) rfl ?_
          refine j_aload_n d_La_law_576 rfl 3 rfl ?_
          refine j_aload_n d_La_law_577 rfl 1 rfl ?_
          refine j_iload d_La_law_578 5 rfl ?_
          refine j_iconst (v := nI 1) d_La_law_580 (by decide) ?_
          refine j_iadd d_La_law_581 ?_
          refine j_eqi (y := nI ((6 * t) + 1)) (nI_add (6 * t) 1) ?_
          refine j_sld hX hbl hbA ((6 * t) + 1) rfl (by omega) (by omega) d_La_law_582 ?_
          refine j_aload_n d_La_law_583 rfl 1 rfl ?_
          refine j_iload d_La_law_584 5 rfl ?_
          refine j_iconst (v := nI 2) d_La_law_586 (by decide) ?_
          refine j_iadd d_La_law_587 ?_
          refine j_eqi (y := nI ((6 * t) + 2)) (nI_add (6 * t) 2) ?_
          refine j_sld hX hbl hbA ((6 * t) + 2) rfl (by omega) (by omega) d_La_law_588 ?_
          obtain ⟨fs589, hr589⟩ := hS571.hr
          refine j_callV (As := [.int (xs ((6 * t) + 1)), .int (xs ((6 * t) + 2))]) (rest := []) (lr_hash Γ.l hS571 (xs ((6 * t) + 1)) (xs ((6 * t) + 2))) Y_Mo_hash w_1151 w_1152 w_1153 hr589 rfl rfl rfl (Nat.le_of_ble_eq_true rfl) (by omega) (by omega) (by omega) d_La_law_589 (fun v589 N589 p589 => ?_)
          rcases p589 with ⟨w589, r589, e0_589, e1_589, e2_589, e3_589, rfl, hS589⟩ | ⟨hno589, rfl, hS589⟩
          · skip
            exact absurd ⟨w589, r589, e0_589, e1_589, e2_589, e3_589⟩ hno571
          · skip
            show mp_J Γ m_La_law E κ N589 [(5, .int (nI 1)), (0, .ref b), (1, .ref h), (2, .ref (R 0)), (3, .ref out), (4, .int (nI (6 * t)))] 592 [.int (nI 0)] (kc + (4)) (nc + (66))
            refine j_istore [(6, .int (nI 0)), (5, .int (nI 1)), (0, .ref b), (1, .ref h), (2, .ref (R 0)), (3, .ref out), (4, .int (nI (6 * t)))] d_La_law_592 (by decide) rfl ?_
            refine j_aload_n d_La_law_594 rfl 4 rfl ?_
            obtain ⟨fs595, hr595⟩ := hS589.hr
            refine j_callV (As := []) (rest := []) (lr_thrown Γ.l hS589) Y_Mo_thrown w_990 w_991 w_992 hr595 rfl rfl rfl (Nat.le_of_ble_eq_true rfl) (by omega) (by omega) (by omega) d_La_law_595 (fun v595 N595 p595 => ?_)
            obtain ⟨rfl, hS595⟩ := p595
            show mp_J Γ m_La_law E κ N595 [(6, .int (nI 0)), (5, .int (nI 1)), (0, .ref b), (1, .ref h), (2, .ref (R 0)), (3, .ref out), (4, .int (nI (6 * t)))] 598 [.int (nI 1)] (kc + (4)) (nc + (66))
            refine j_iload d_La_law_598 1 rfl ?_
            refine j_ncmp_eq 605 1 1 rfl rfl (by omega) (by omega) d_La_law_600 (by decide) (fun b600 => ?_) (fun b600 => (by first | exact b600.elim | exact absurd b600 (by omega)))
            refine j_iload d_La_law_605 1 rfl ?_
            refine j_nif_ne 622 1 rfl (by omega) d_La_law_607 (by decide) (fun b607 => ?_) (fun b607 => (by first | exact b607.elim | exact absurd b607 (by omega)))
            refine j_goto (tgt := 625) d_La_law_622 (by decide) ?_
            refine j_iinc (v := nI (6 * (t + 1))) [(4, .int (nI (6 * (t + 1)))), (6, .int (nI 0)), (5, .int (nI 1)), (0, .ref b), (1, .ref h), (2, .ref (R 0)), (3, .ref out)] d_La_law_625 6 rfl (nI_add (6 * t) 6) (by decide) rfl ?_
            refine j_goto (tgt := 23) d_La_law_628 (by decide) ?_
            refine j_lv [3, 4, 5, 6, 0] rfl ?_
            exact ih N595 fo len g zs (nI 1) (t + 1) (kc + (4)) (nc + (66)) (by omega) hS595 (by omega) (by omega)
