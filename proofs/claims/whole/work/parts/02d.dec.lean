theorem dX11_init_0 : decode cX11_init 0 = .ok (.aload_n 0, 1) := by decide +kernel
theorem dX11_init_1 : decode cX11_init 1 = .ok (.invokespecial 1, 3) := by decide +kernel
theorem dX11_init_4 : decode cX11_init 4 = .ok (.aload_n 0, 1) := by decide +kernel
theorem dX11_init_5 : decode cX11_init 5 = .ok (.bipush 10, 2) := by decide +kernel
theorem dX11_init_7 : decode cX11_init 7 = .ok (.iconst 5, 1) := by decide +kernel
theorem dX11_init_8 : decode cX11_init 8 = .ok (.multianewarray 7 2, 4) := by decide +kernel
theorem dX11_init_12 : decode cX11_init 12 = .ok (.putfield 9, 3) := by decide +kernel
theorem dX11_init_15 : decode cX11_init 15 = .ok (.aload_n 0, 1) := by decide +kernel
theorem dX11_init_16 : decode cX11_init 16 = .ok (.bipush 10, 2) := by decide +kernel
theorem dX11_init_18 : decode cX11_init 18 = .ok (.newarray .int, 2) := by decide +kernel
theorem dX11_init_20 : decode cX11_init 20 = .ok (.putfield 14, 3) := by decide +kernel
theorem dX11_init_23 : decode cX11_init 23 = .ok (.aload_n 0, 1) := by decide +kernel
theorem dX11_init_24 : decode cX11_init 24 = .ok (.bipush 10, 2) := by decide +kernel
theorem dX11_init_26 : decode cX11_init 26 = .ok (.newarray .int, 2) := by decide +kernel
theorem dX11_init_28 : decode cX11_init 28 = .ok (.putfield 18, 3) := by decide +kernel
theorem dX11_init_31 : decode cX11_init 31 = .ok (.aload_n 0, 1) := by decide +kernel
theorem dX11_init_32 : decode cX11_init 32 = .ok (.bipush 10, 2) := by decide +kernel
theorem dX11_init_34 : decode cX11_init 34 = .ok (.newarray .int, 2) := by decide +kernel
theorem dX11_init_36 : decode cX11_init 36 = .ok (.putfield 21, 3) := by decide +kernel
theorem dX11_init_39 : decode cX11_init 39 = .ok (.aload_n 0, 1) := by decide +kernel
theorem dX11_init_40 : decode cX11_init 40 = .ok (.bipush 10, 2) := by decide +kernel
theorem dX11_init_42 : decode cX11_init 42 = .ok (.newarray .int, 2) := by decide +kernel
theorem dX11_init_44 : decode cX11_init 44 = .ok (.putfield 24, 3) := by decide +kernel
theorem dX11_init_47 : decode cX11_init 47 = .ok (.aload_n 0, 1) := by decide +kernel
theorem dX11_init_48 : decode cX11_init 48 = .ok (.bipush 10, 2) := by decide +kernel
theorem dX11_init_50 : decode cX11_init 50 = .ok (.newarray .int, 2) := by decide +kernel
theorem dX11_init_52 : decode cX11_init 52 = .ok (.putfield 27, 3) := by decide +kernel
theorem dX11_init_55 : decode cX11_init 55 = .ok (.aload_n 0, 1) := by decide +kernel
theorem dX11_init_56 : decode cX11_init 56 = .ok (.bipush 10, 2) := by decide +kernel
theorem dX11_init_58 : decode cX11_init 58 = .ok (.newarray .int, 2) := by decide +kernel
theorem dX11_init_60 : decode cX11_init 60 = .ok (.putfield 30, 3) := by decide +kernel
theorem dX11_init_63 : decode cX11_init 63 = .ok (.aload_n 0, 1) := by decide +kernel
theorem dX11_init_64 : decode cX11_init 64 = .ok (.bipush 10, 2) := by decide +kernel
theorem dX11_init_66 : decode cX11_init 66 = .ok (.newarray .int, 2) := by decide +kernel
theorem dX11_init_68 : decode cX11_init 68 = .ok (.putfield 33, 3) := by decide +kernel
theorem dX11_init_71 : decode cX11_init 71 = .ok (.aload_n 0, 1) := by decide +kernel
theorem dX11_init_72 : decode cX11_init 72 = .ok (.bipush 10, 2) := by decide +kernel
theorem dX11_init_74 : decode cX11_init 74 = .ok (.newarray .int, 2) := by decide +kernel
theorem dX11_init_76 : decode cX11_init 76 = .ok (.putfield 36, 3) := by decide +kernel
theorem dX11_init_79 : decode cX11_init 79 = .ok (.aload_n 0, 1) := by decide +kernel
theorem dX11_init_80 : decode cX11_init 80 = .ok (.iconst 4, 1) := by decide +kernel
theorem dX11_init_81 : decode cX11_init 81 = .ok (.bipush 10, 2) := by decide +kernel
theorem dX11_init_83 : decode cX11_init 83 = .ok (.multianewarray 7 2, 4) := by decide +kernel
theorem dX11_init_87 : decode cX11_init 87 = .ok (.putfield 39, 3) := by decide +kernel
theorem dX11_init_90 : decode cX11_init 90 = .ok (.aload_n 0, 1) := by decide +kernel
theorem dX11_init_91 : decode cX11_init 91 = .ok (.bipush 50, 2) := by decide +kernel
theorem dX11_init_93 : decode cX11_init 93 = .ok (.newarray .int, 2) := by decide +kernel
theorem dX11_init_95 : decode cX11_init 95 = .ok (.putfield 42, 3) := by decide +kernel
theorem dX11_init_98 : decode cX11_init 98 = .ok (.aload_n 0, 1) := by decide +kernel
theorem dX11_init_99 : decode cX11_init 99 = .ok (.bipush 50, 2) := by decide +kernel
theorem dX11_init_101 : decode cX11_init 101 = .ok (.newarray .int, 2) := by decide +kernel
theorem dX11_init_103 : decode cX11_init 103 = .ok (.putfield 45, 3) := by decide +kernel
theorem dX11_init_106 : decode cX11_init 106 = .ok (.aload_n 0, 1) := by decide +kernel
theorem dX11_init_107 : decode cX11_init 107 = .ok (.bipush 50, 2) := by decide +kernel
theorem dX11_init_109 : decode cX11_init 109 = .ok (.newarray .int, 2) := by decide +kernel
theorem dX11_init_111 : decode cX11_init 111 = .ok (.putfield 48, 3) := by decide +kernel
theorem dX11_init_114 : decode cX11_init 114 = .ok (.aload_n 0, 1) := by decide +kernel
theorem dX11_init_115 : decode cX11_init 115 = .ok (.bipush 50, 2) := by decide +kernel
theorem dX11_init_117 : decode cX11_init 117 = .ok (.newarray .int, 2) := by decide +kernel
theorem dX11_init_119 : decode cX11_init 119 = .ok (.putfield 51, 3) := by decide +kernel
theorem dX11_init_122 : decode cX11_init 122 = .ok (.aload_n 0, 1) := by decide +kernel
theorem dX11_init_123 : decode cX11_init 123 = .ok (.bipush 50, 2) := by decide +kernel
theorem dX11_init_125 : decode cX11_init 125 = .ok (.newarray .int, 2) := by decide +kernel
theorem dX11_init_127 : decode cX11_init 127 = .ok (.putfield 54, 3) := by decide +kernel
theorem dX11_init_130 : decode cX11_init 130 = .ok (.aload_n 0, 1) := by decide +kernel
theorem dX11_init_131 : decode cX11_init 131 = .ok (.bipush 100, 2) := by decide +kernel
theorem dX11_init_133 : decode cX11_init 133 = .ok (.newarray .int, 2) := by decide +kernel
theorem dX11_init_135 : decode cX11_init 135 = .ok (.putfield 57, 3) := by decide +kernel
theorem dX11_init_138 : decode cX11_init 138 = .ok (.aload_n 0, 1) := by decide +kernel
theorem dX11_init_139 : decode cX11_init 139 = .ok (.bipush 41, 2) := by decide +kernel
theorem dX11_init_141 : decode cX11_init 141 = .ok (.bipush 6, 2) := by decide +kernel
theorem dX11_init_143 : decode cX11_init 143 = .ok (.multianewarray 7 2, 4) := by decide +kernel
theorem dX11_init_147 : decode cX11_init 147 = .ok (.putfield 60, 3) := by decide +kernel
theorem dX11_init_150 : decode cX11_init 150 = .ok (.aload_n 0, 1) := by decide +kernel
theorem dX11_init_151 : decode cX11_init 151 = .ok (.bipush 41, 2) := by decide +kernel
theorem dX11_init_153 : decode cX11_init 153 = .ok (.bipush 24, 2) := by decide +kernel
theorem dX11_init_155 : decode cX11_init 155 = .ok (.multianewarray 7 2, 4) := by decide +kernel
theorem dX11_init_159 : decode cX11_init 159 = .ok (.putfield 63, 3) := by decide +kernel
theorem dX11_init_162 : decode cX11_init 162 = .ok (.aload_n 0, 1) := by decide +kernel
theorem dX11_init_163 : decode cX11_init 163 = .ok (.iconst 2, 1) := by decide +kernel
theorem dX11_init_164 : decode cX11_init 164 = .ok (.sipush 7200, 3) := by decide +kernel
theorem dX11_init_167 : decode cX11_init 167 = .ok (.multianewarray 7 2, 4) := by decide +kernel
theorem dX11_init_171 : decode cX11_init 171 = .ok (.putfield 66, 3) := by decide +kernel
theorem dX11_init_174 : decode cX11_init 174 = .ok (.aload_n 0, 1) := by decide +kernel
theorem dX11_init_175 : decode cX11_init 175 = .ok (.iconst 2, 1) := by decide +kernel
theorem dX11_init_176 : decode cX11_init 176 = .ok (.sipush 7200, 3) := by decide +kernel
theorem dX11_init_179 : decode cX11_init 179 = .ok (.multianewarray 69 2, 4) := by decide +kernel
theorem dX11_init_183 : decode cX11_init 183 = .ok (.putfield 71, 3) := by decide +kernel
theorem dX11_init_186 : decode cX11_init 186 = .ok (.aload_n 0, 1) := by decide +kernel
theorem dX11_init_187 : decode cX11_init 187 = .ok (.iconst 4, 1) := by decide +kernel
theorem dX11_init_188 : decode cX11_init 188 = .ok (.newarray .int, 2) := by decide +kernel
theorem dX11_init_190 : decode cX11_init 190 = .ok (.putfield 74, 3) := by decide +kernel
theorem dX11_init_193 : decode cX11_init 193 = .ok (.aload_n 0, 1) := by decide +kernel
theorem dX11_init_194 : decode cX11_init 194 = .ok (.iconst 4, 1) := by decide +kernel
theorem dX11_init_195 : decode cX11_init 195 = .ok (.newarray .int, 2) := by decide +kernel
theorem dX11_init_197 : decode cX11_init 197 = .ok (.putfield 77, 3) := by decide +kernel
theorem dX11_init_200 : decode cX11_init 200 = .ok (.aload_n 0, 1) := by decide +kernel
theorem dX11_init_201 : decode cX11_init 201 = .ok (.iconst 4, 1) := by decide +kernel
theorem dX11_init_202 : decode cX11_init 202 = .ok (.newarray .int, 2) := by decide +kernel
theorem dX11_init_204 : decode cX11_init 204 = .ok (.putfield 80, 3) := by decide +kernel
theorem dX11_init_207 : decode cX11_init 207 = .ok (.aload_n 0, 1) := by decide +kernel
theorem dX11_init_208 : decode cX11_init 208 = .ok (.iconst 4, 1) := by decide +kernel
theorem dX11_init_209 : decode cX11_init 209 = .ok (.newarray .int, 2) := by decide +kernel
theorem dX11_init_211 : decode cX11_init 211 = .ok (.putfield 83, 3) := by decide +kernel
theorem dX11_init_214 : decode cX11_init 214 = .ok (.aload_n 0, 1) := by decide +kernel
theorem dX11_init_215 : decode cX11_init 215 = .ok (.sipush 200, 3) := by decide +kernel
theorem dX11_init_218 : decode cX11_init 218 = .ok (.bipush 6, 2) := by decide +kernel
theorem dX11_init_220 : decode cX11_init 220 = .ok (.multianewarray 7 2, 4) := by decide +kernel
theorem dX11_init_224 : decode cX11_init 224 = .ok (.putfield 86, 3) := by decide +kernel
theorem dX11_init_227 : decode cX11_init 227 = .ok (.aload_n 0, 1) := by decide +kernel
theorem dX11_init_228 : decode cX11_init 228 = .ok (.bipush 6, 2) := by decide +kernel
theorem dX11_init_230 : decode cX11_init 230 = .ok (.newarray .int, 2) := by decide +kernel
theorem dX11_init_232 : decode cX11_init 232 = .ok (.putfield 89, 3) := by decide +kernel
theorem dX11_init_235 : decode cX11_init 235 = .ok (.aload_n 0, 1) := by decide +kernel
theorem dX11_init_236 : decode cX11_init 236 = .ok (.bipush 6, 2) := by decide +kernel
theorem dX11_init_238 : decode cX11_init 238 = .ok (.newarray .boolean, 2) := by decide +kernel
theorem dX11_init_240 : decode cX11_init 240 = .ok (.putfield 92, 3) := by decide +kernel
theorem dX11_init_243 : decode cX11_init 243 = .ok (.aload_n 0, 1) := by decide +kernel
theorem dX11_init_244 : decode cX11_init 244 = .ok (.bipush 6, 2) := by decide +kernel
theorem dX11_init_246 : decode cX11_init 246 = .ok (.newarray .int, 2) := by decide +kernel
theorem dX11_init_248 : decode cX11_init 248 = .ok (.putfield 96, 3) := by decide +kernel
theorem dX11_init_251 : decode cX11_init 251 = .ok (.aload_n 0, 1) := by decide +kernel
theorem dX11_init_252 : decode cX11_init 252 = .ok (.bipush 6, 2) := by decide +kernel
theorem dX11_init_254 : decode cX11_init 254 = .ok (.bipush 8, 2) := by decide +kernel
theorem dX11_init_256 : decode cX11_init 256 = .ok (.multianewarray 7 2, 4) := by decide +kernel
theorem dX11_init_260 : decode cX11_init 260 = .ok (.putfield 99, 3) := by decide +kernel
theorem dX11_init_263 : decode cX11_init 263 = .ok (.aload_n 0, 1) := by decide +kernel
theorem dX11_init_264 : decode cX11_init 264 = .ok (.bipush 6, 2) := by decide +kernel
theorem dX11_init_266 : decode cX11_init 266 = .ok (.bipush 8, 2) := by decide +kernel
theorem dX11_init_268 : decode cX11_init 268 = .ok (.multianewarray 69 2, 4) := by decide +kernel
theorem dX11_init_272 : decode cX11_init 272 = .ok (.putfield 102, 3) := by decide +kernel
theorem dX11_init_275 : decode cX11_init 275 = .ok (.aload_n 0, 1) := by decide +kernel
theorem dX11_init_276 : decode cX11_init 276 = .ok (.bipush 6, 2) := by decide +kernel
theorem dX11_init_278 : decode cX11_init 278 = .ok (.newarray .int, 2) := by decide +kernel
theorem dX11_init_280 : decode cX11_init 280 = .ok (.putfield 105, 3) := by decide +kernel
theorem dX11_init_283 : decode cX11_init 283 = .ok (.aload_n 0, 1) := by decide +kernel
theorem dX11_init_284 : decode cX11_init 284 = .ok (.iconst (-1), 1) := by decide +kernel
theorem dX11_init_285 : decode cX11_init 285 = .ok (.putfield 108, 3) := by decide +kernel
theorem dX11_init_288 : decode cX11_init 288 = .ok (.aload_n 0, 1) := by decide +kernel
theorem dX11_init_289 : decode cX11_init 289 = .ok (.bipush 10, 2) := by decide +kernel
theorem dX11_init_291 : decode cX11_init 291 = .ok (.newarray .int, 2) := by decide +kernel
theorem dX11_init_293 : decode cX11_init 293 = .ok (.putfield 112, 3) := by decide +kernel
theorem dX11_init_296 : decode cX11_init 296 = .ok (.aload_n 0, 1) := by decide +kernel
theorem dX11_init_297 : decode cX11_init 297 = .ok (.bipush 10, 2) := by decide +kernel
theorem dX11_init_299 : decode cX11_init 299 = .ok (.newarray .int, 2) := by decide +kernel
theorem dX11_init_301 : decode cX11_init 301 = .ok (.putfield 115, 3) := by decide +kernel
theorem dX11_init_304 : decode cX11_init 304 = .ok (.aload_n 0, 1) := by decide +kernel
theorem dX11_init_305 : decode cX11_init 305 = .ok (.iconst 3, 1) := by decide +kernel
theorem dX11_init_306 : decode cX11_init 306 = .ok (.newarray .int, 2) := by decide +kernel
theorem dX11_init_308 : decode cX11_init 308 = .ok (.dup, 1) := by decide +kernel
theorem dX11_init_309 : decode cX11_init 309 = .ok (.iconst 0, 1) := by decide +kernel
theorem dX11_init_310 : decode cX11_init 310 = .ok (.iconst (-1), 1) := by decide +kernel
theorem dX11_init_311 : decode cX11_init 311 = .ok (.iastore, 1) := by decide +kernel
theorem dX11_init_312 : decode cX11_init 312 = .ok (.dup, 1) := by decide +kernel
theorem dX11_init_313 : decode cX11_init 313 = .ok (.iconst 1, 1) := by decide +kernel
theorem dX11_init_314 : decode cX11_init 314 = .ok (.iconst (-1), 1) := by decide +kernel
theorem dX11_init_315 : decode cX11_init 315 = .ok (.iastore, 1) := by decide +kernel
theorem dX11_init_316 : decode cX11_init 316 = .ok (.dup, 1) := by decide +kernel
theorem dX11_init_317 : decode cX11_init 317 = .ok (.iconst 2, 1) := by decide +kernel
theorem dX11_init_318 : decode cX11_init 318 = .ok (.iconst (-1), 1) := by decide +kernel
theorem dX11_init_319 : decode cX11_init 319 = .ok (.iastore, 1) := by decide +kernel
theorem dX11_init_320 : decode cX11_init 320 = .ok (.putfield 118, 3) := by decide +kernel
theorem dX11_init_323 : decode cX11_init 323 = .ok (.aload_n 0, 1) := by decide +kernel
theorem dX11_init_324 : decode cX11_init 324 = .ok (.iconst (-1), 1) := by decide +kernel
theorem dX11_init_325 : decode cX11_init 325 = .ok (.putfield 121, 3) := by decide +kernel
theorem dX11_init_328 : decode cX11_init 328 = .ok (.aload_n 0, 1) := by decide +kernel
theorem dX11_init_329 : decode cX11_init 329 = .ok (.iconst 3, 1) := by decide +kernel
theorem dX11_init_330 : decode cX11_init 330 = .ok (.newarray .int, 2) := by decide +kernel
theorem dX11_init_332 : decode cX11_init 332 = .ok (.dup, 1) := by decide +kernel
theorem dX11_init_333 : decode cX11_init 333 = .ok (.iconst 0, 1) := by decide +kernel
theorem dX11_init_334 : decode cX11_init 334 = .ok (.iconst (-1), 1) := by decide +kernel
theorem dX11_init_335 : decode cX11_init 335 = .ok (.iastore, 1) := by decide +kernel
theorem dX11_init_336 : decode cX11_init 336 = .ok (.dup, 1) := by decide +kernel
theorem dX11_init_337 : decode cX11_init 337 = .ok (.iconst 1, 1) := by decide +kernel
theorem dX11_init_338 : decode cX11_init 338 = .ok (.iconst (-1), 1) := by decide +kernel
theorem dX11_init_339 : decode cX11_init 339 = .ok (.iastore, 1) := by decide +kernel
theorem dX11_init_340 : decode cX11_init 340 = .ok (.dup, 1) := by decide +kernel
theorem dX11_init_341 : decode cX11_init 341 = .ok (.iconst 2, 1) := by decide +kernel
theorem dX11_init_342 : decode cX11_init 342 = .ok (.iconst (-1), 1) := by decide +kernel
theorem dX11_init_343 : decode cX11_init 343 = .ok (.iastore, 1) := by decide +kernel
theorem dX11_init_344 : decode cX11_init 344 = .ok (.putfield 124, 3) := by decide +kernel
theorem dX11_init_347 : decode cX11_init 347 = .ok (.aload_n 0, 1) := by decide +kernel
theorem dX11_init_348 : decode cX11_init 348 = .ok (.iconst 3, 1) := by decide +kernel
theorem dX11_init_349 : decode cX11_init 349 = .ok (.newarray .int, 2) := by decide +kernel
theorem dX11_init_351 : decode cX11_init 351 = .ok (.putfield 127, 3) := by decide +kernel
theorem dX11_init_354 : decode cX11_init 354 = .ok (.aload_n 0, 1) := by decide +kernel
theorem dX11_init_355 : decode cX11_init 355 = .ok (.iconst 3, 1) := by decide +kernel
theorem dX11_init_356 : decode cX11_init 356 = .ok (.bipush 60, 2) := by decide +kernel
theorem dX11_init_358 : decode cX11_init 358 = .ok (.multianewarray 7 2, 4) := by decide +kernel
theorem dX11_init_362 : decode cX11_init 362 = .ok (.putfield 130, 3) := by decide +kernel
theorem dX11_init_365 : decode cX11_init 365 = .ok (.aload_n 0, 1) := by decide +kernel
theorem dX11_init_366 : decode cX11_init 366 = .ok (.iconst 3, 1) := by decide +kernel
theorem dX11_init_367 : decode cX11_init 367 = .ok (.bipush 60, 2) := by decide +kernel
theorem dX11_init_369 : decode cX11_init 369 = .ok (.multianewarray 69 2, 4) := by decide +kernel
theorem dX11_init_373 : decode cX11_init 373 = .ok (.putfield 133, 3) := by decide +kernel
theorem dX11_init_376 : decode cX11_init 376 = .ok (.aload_n 0, 1) := by decide +kernel
theorem dX11_init_377 : decode cX11_init 377 = .ok (.bipush 20, 2) := by decide +kernel
theorem dX11_init_379 : decode cX11_init 379 = .ok (.newarray .int, 2) := by decide +kernel
theorem dX11_init_381 : decode cX11_init 381 = .ok (.putfield 136, 3) := by decide +kernel
theorem dX11_init_384 : decode cX11_init 384 = .ok (.aload_n 0, 1) := by decide +kernel
theorem dX11_init_385 : decode cX11_init 385 = .ok (.bipush 6, 2) := by decide +kernel
theorem dX11_init_387 : decode cX11_init 387 = .ok (.newarray .int, 2) := by decide +kernel
theorem dX11_init_389 : decode cX11_init 389 = .ok (.putfield 139, 3) := by decide +kernel
theorem dX11_init_392 : decode cX11_init 392 = .ok (.aload_n 0, 1) := by decide +kernel
theorem dX11_init_393 : decode cX11_init 393 = .ok (.bipush 10, 2) := by decide +kernel
theorem dX11_init_395 : decode cX11_init 395 = .ok (.newarray .int, 2) := by decide +kernel
theorem dX11_init_397 : decode cX11_init 397 = .ok (.putfield 142, 3) := by decide +kernel
theorem dX11_init_400 : decode cX11_init 400 = .ok (.aload_n 0, 1) := by decide +kernel
theorem dX11_init_401 : decode cX11_init 401 = .ok (.iconst 4, 1) := by decide +kernel
theorem dX11_init_402 : decode cX11_init 402 = .ok (.newarray .int, 2) := by decide +kernel
theorem dX11_init_404 : decode cX11_init 404 = .ok (.putfield 145, 3) := by decide +kernel
theorem dX11_init_407 : decode cX11_init 407 = .ok (.aload_n 0, 1) := by decide +kernel
theorem dX11_init_408 : decode cX11_init 408 = .ok (.iconst 4, 1) := by decide +kernel
theorem dX11_init_409 : decode cX11_init 409 = .ok (.newarray .int, 2) := by decide +kernel
theorem dX11_init_411 : decode cX11_init 411 = .ok (.putfield 148, 3) := by decide +kernel
theorem dX11_init_414 : decode cX11_init 414 = .ok (.aload_n 0, 1) := by decide +kernel
theorem dX11_init_415 : decode cX11_init 415 = .ok (.iconst 4, 1) := by decide +kernel
theorem dX11_init_416 : decode cX11_init 416 = .ok (.bipush 10, 2) := by decide +kernel
theorem dX11_init_418 : decode cX11_init 418 = .ok (.multianewarray 7 2, 4) := by decide +kernel
theorem dX11_init_422 : decode cX11_init 422 = .ok (.putfield 151, 3) := by decide +kernel
theorem dX11_init_425 : decode cX11_init 425 = .ok (.aload_n 0, 1) := by decide +kernel
theorem dX11_init_426 : decode cX11_init 426 = .ok (.iconst 5, 1) := by decide +kernel
theorem dX11_init_427 : decode cX11_init 427 = .ok (.newarray .int, 2) := by decide +kernel
theorem dX11_init_429 : decode cX11_init 429 = .ok (.putfield 154, 3) := by decide +kernel
theorem dX11_init_432 : decode cX11_init 432 = .ok (.aload_n 0, 1) := by decide +kernel
theorem dX11_init_433 : decode cX11_init 433 = .ok (.iconst 5, 1) := by decide +kernel
theorem dX11_init_434 : decode cX11_init 434 = .ok (.newarray .int, 2) := by decide +kernel
theorem dX11_init_436 : decode cX11_init 436 = .ok (.putfield 157, 3) := by decide +kernel
theorem dX11_init_439 : decode cX11_init 439 = .ok (.iconst 0, 1) := by decide +kernel
theorem dX11_init_440 : decode cX11_init 440 = .ok (.istore_n 1, 1) := by decide +kernel
theorem dX11_init_441 : decode cX11_init 441 = .ok (.iload_n 1, 1) := by decide +kernel
theorem dX11_init_442 : decode cX11_init 442 = .ok (.bipush 40, 2) := by decide +kernel
theorem dX11_init_444 : decode cX11_init 444 = .ok (.if_icmp .gt 18, 3) := by decide +kernel
theorem dX11_init_447 : decode cX11_init 447 = .ok (.aload_n 0, 1) := by decide +kernel
theorem dX11_init_448 : decode cX11_init 448 = .ok (.getfield 60, 3) := by decide +kernel
theorem dX11_init_451 : decode cX11_init 451 = .ok (.iload_n 1, 1) := by decide +kernel
theorem dX11_init_452 : decode cX11_init 452 = .ok (.aaload, 1) := by decide +kernel
theorem dX11_init_453 : decode cX11_init 453 = .ok (.iconst 5, 1) := by decide +kernel
theorem dX11_init_454 : decode cX11_init 454 = .ok (.iconst (-1), 1) := by decide +kernel
theorem dX11_init_455 : decode cX11_init 455 = .ok (.iastore, 1) := by decide +kernel
theorem dX11_init_456 : decode cX11_init 456 = .ok (.iinc 1 1, 3) := by decide +kernel
theorem dX11_init_459 : decode cX11_init 459 = .ok (.goto (-18), 3) := by decide +kernel
theorem dX11_init_462 : decode cX11_init 462 = .ok (.return_, 1) := by decide +kernel
theorem dX11_in_0 : decode cX11_in 0 = .ok (.iload_n 1, 1) := by decide +kernel
theorem dX11_in_1 : decode cX11_in 1 = .ok (.iload_n 0, 1) := by decide +kernel
theorem dX11_in_2 : decode cX11_in 2 = .ok (.if_icmp .gt 12, 3) := by decide +kernel
theorem dX11_in_5 : decode cX11_in 5 = .ok (.iload_n 0, 1) := by decide +kernel
theorem dX11_in_6 : decode cX11_in 6 = .ok (.iload_n 2, 1) := by decide +kernel
theorem dX11_in_7 : decode cX11_in 7 = .ok (.if_icmp .gt 7, 3) := by decide +kernel
theorem dX11_in_10 : decode cX11_in 10 = .ok (.iconst 1, 1) := by decide +kernel
theorem dX11_in_11 : decode cX11_in 11 = .ok (.goto 4, 3) := by decide +kernel
theorem dX11_in_14 : decode cX11_in 14 = .ok (.iconst 0, 1) := by decide +kernel
theorem dX11_in_15 : decode cX11_in 15 = .ok (.ireturn, 1) := by decide +kernel
theorem dX11_isHouse_0 : decode cX11_isHouse 0 = .ok (.iload_n 1, 1) := by decide +kernel
theorem dX11_isHouse_1 : decode cX11_isHouse 1 = .ok (.iconst 0, 1) := by decide +kernel
theorem dX11_isHouse_2 : decode cX11_isHouse 2 = .ok (.aload_n 0, 1) := by decide +kernel
theorem dX11_isHouse_3 : decode cX11_isHouse 3 = .ok (.getfield 160, 3) := by decide +kernel
theorem dX11_isHouse_6 : decode cX11_isHouse 6 = .ok (.iconst 1, 1) := by decide +kernel
theorem dX11_isHouse_7 : decode cX11_isHouse 7 = .ok (.isub, 1) := by decide +kernel
theorem dX11_isHouse_8 : decode cX11_isHouse 8 = .ok (.invokestatic 163, 3) := by decide +kernel
theorem dX11_isHouse_11 : decode cX11_isHouse 11 = .ok (.ireturn, 1) := by decide +kernel
theorem dX11_isRight_0 : decode cX11_isRight 0 = .ok (.iload_n 1, 1) := by decide +kernel
theorem dX11_isRight_1 : decode cX11_isRight 1 = .ok (.iconst 0, 1) := by decide +kernel
theorem dX11_isRight_2 : decode cX11_isRight 2 = .ok (.aload_n 0, 1) := by decide +kernel
theorem dX11_isRight_3 : decode cX11_isRight 3 = .ok (.getfield 167, 3) := by decide +kernel
theorem dX11_isRight_6 : decode cX11_isRight 6 = .ok (.iconst 1, 1) := by decide +kernel
theorem dX11_isRight_7 : decode cX11_isRight 7 = .ok (.isub, 1) := by decide +kernel
theorem dX11_isRight_8 : decode cX11_isRight 8 = .ok (.invokestatic 163, 3) := by decide +kernel
theorem dX11_isRight_11 : decode cX11_isRight 11 = .ok (.ireturn, 1) := by decide +kernel
theorem dX11_isAlp_0 : decode cX11_isAlp 0 = .ok (.iload_n 1, 1) := by decide +kernel
theorem dX11_isAlp_1 : decode cX11_isAlp 1 = .ok (.iconst 0, 1) := by decide +kernel
theorem dX11_isAlp_2 : decode cX11_isAlp 2 = .ok (.aload_n 0, 1) := by decide +kernel
theorem dX11_isAlp_3 : decode cX11_isAlp 3 = .ok (.getfield 170, 3) := by decide +kernel
theorem dX11_isAlp_6 : decode cX11_isAlp 6 = .ok (.iconst 1, 1) := by decide +kernel
theorem dX11_isAlp_7 : decode cX11_isAlp 7 = .ok (.isub, 1) := by decide +kernel
theorem dX11_isAlp_8 : decode cX11_isAlp 8 = .ok (.invokestatic 163, 3) := by decide +kernel
theorem dX11_isAlp_11 : decode cX11_isAlp 11 = .ok (.ireturn, 1) := by decide +kernel
theorem dX11_isSlope_0 : decode cX11_isSlope 0 = .ok (.iload_n 1, 1) := by decide +kernel
theorem dX11_isSlope_1 : decode cX11_isSlope 1 = .ok (.iconst 0, 1) := by decide +kernel
theorem dX11_isSlope_2 : decode cX11_isSlope 2 = .ok (.aload_n 0, 1) := by decide +kernel
theorem dX11_isSlope_3 : decode cX11_isSlope 3 = .ok (.getfield 173, 3) := by decide +kernel
theorem dX11_isSlope_6 : decode cX11_isSlope 6 = .ok (.iconst 1, 1) := by decide +kernel
theorem dX11_isSlope_7 : decode cX11_isSlope 7 = .ok (.isub, 1) := by decide +kernel
theorem dX11_isSlope_8 : decode cX11_isSlope 8 = .ok (.invokestatic 163, 3) := by decide +kernel
theorem dX11_isSlope_11 : decode cX11_isSlope 11 = .ok (.ireturn, 1) := by decide +kernel
theorem dX11_upOf_0 : decode cX11_upOf 0 = .ok (.iconst 0, 1) := by decide +kernel
theorem dX11_upOf_1 : decode cX11_upOf 1 = .ok (.istore_n 2, 1) := by decide +kernel
theorem dX11_upOf_2 : decode cX11_upOf 2 = .ok (.iconst 0, 1) := by decide +kernel
theorem dX11_upOf_3 : decode cX11_upOf 3 = .ok (.istore_n 3, 1) := by decide +kernel
theorem dX11_upOf_4 : decode cX11_upOf 4 = .ok (.iload_n 3, 1) := by decide +kernel
theorem dX11_upOf_5 : decode cX11_upOf 5 = .ok (.aload_n 0, 1) := by decide +kernel
theorem dX11_upOf_6 : decode cX11_upOf 6 = .ok (.getfield 170, 3) := by decide +kernel
theorem dX11_upOf_9 : decode cX11_upOf 9 = .ok (.if_icmp .ge 20, 3) := by decide +kernel
theorem dX11_upOf_12 : decode cX11_upOf 12 = .ok (.iload_n 2, 1) := by decide +kernel
theorem dX11_upOf_13 : decode cX11_upOf 13 = .ok (.aload_n 0, 1) := by decide +kernel
theorem dX11_upOf_14 : decode cX11_upOf 14 = .ok (.getfield 39, 3) := by decide +kernel
theorem dX11_upOf_17 : decode cX11_upOf 17 = .ok (.iload_n 3, 1) := by decide +kernel
theorem dX11_upOf_18 : decode cX11_upOf 18 = .ok (.aaload, 1) := by decide +kernel
theorem dX11_upOf_19 : decode cX11_upOf 19 = .ok (.iload_n 1, 1) := by decide +kernel
theorem dX11_upOf_20 : decode cX11_upOf 20 = .ok (.iaload, 1) := by decide +kernel
theorem dX11_upOf_21 : decode cX11_upOf 21 = .ok (.iadd, 1) := by decide +kernel
theorem dX11_upOf_22 : decode cX11_upOf 22 = .ok (.istore_n 2, 1) := by decide +kernel
theorem dX11_upOf_23 : decode cX11_upOf 23 = .ok (.iinc 3 1, 3) := by decide +kernel
theorem dX11_upOf_26 : decode cX11_upOf 26 = .ok (.goto (-22), 3) := by decide +kernel
theorem dX11_upOf_29 : decode cX11_upOf 29 = .ok (.iload_n 2, 1) := by decide +kernel
theorem dX11_upOf_30 : decode cX11_upOf 30 = .ok (.ireturn, 1) := by decide +kernel
theorem dX11_isNumber_0 : decode cX11_isNumber 0 = .ok (.iload_n 0, 1) := by decide +kernel
theorem dX11_isNumber_1 : decode cX11_isNumber 1 = .ok (.ifCond .ne 13, 3) := by decide +kernel
theorem dX11_isNumber_4 : decode cX11_isNumber 4 = .ok (.iload_n 1, 1) := by decide +kernel
theorem dX11_isNumber_5 : decode cX11_isNumber 5 = .ok (.iconst 1, 1) := by decide +kernel
theorem dX11_isNumber_6 : decode cX11_isNumber 6 = .ok (.bipush 9, 2) := by decide +kernel
theorem dX11_isNumber_8 : decode cX11_isNumber 8 = .ok (.invokestatic 163, 3) := by decide +kernel
theorem dX11_isNumber_11 : decode cX11_isNumber 11 = .ok (.goto 40, 3) := by decide +kernel
theorem dX11_isNumber_14 : decode cX11_isNumber 14 = .ok (.iload_n 0, 1) := by decide +kernel
theorem dX11_isNumber_15 : decode cX11_isNumber 15 = .ok (.iconst 1, 1) := by decide +kernel
theorem dX11_isNumber_16 : decode cX11_isNumber 16 = .ok (.if_icmp .ne 13, 3) := by decide +kernel
theorem dX11_isNumber_19 : decode cX11_isNumber 19 = .ok (.iload_n 1, 1) := by decide +kernel
theorem dX11_isNumber_20 : decode cX11_isNumber 20 = .ok (.iconst 1, 1) := by decide +kernel
theorem dX11_isNumber_21 : decode cX11_isNumber 21 = .ok (.bipush 20, 2) := by decide +kernel
theorem dX11_isNumber_23 : decode cX11_isNumber 23 = .ok (.invokestatic 163, 3) := by decide +kernel
theorem dX11_isNumber_26 : decode cX11_isNumber 26 = .ok (.goto 25, 3) := by decide +kernel
theorem dX11_isNumber_29 : decode cX11_isNumber 29 = .ok (.iload_n 0, 1) := by decide +kernel
theorem dX11_isNumber_30 : decode cX11_isNumber 30 = .ok (.iconst 2, 1) := by decide +kernel
theorem dX11_isNumber_31 : decode cX11_isNumber 31 = .ok (.if_icmp .ne 13, 3) := by decide +kernel
theorem dX11_isNumber_34 : decode cX11_isNumber 34 = .ok (.iload_n 1, 1) := by decide +kernel
theorem dX11_isNumber_35 : decode cX11_isNumber 35 = .ok (.iconst 0, 1) := by decide +kernel
theorem dX11_isNumber_36 : decode cX11_isNumber 36 = .ok (.bipush 99, 2) := by decide +kernel
theorem dX11_isNumber_38 : decode cX11_isNumber 38 = .ok (.invokestatic 163, 3) := by decide +kernel
theorem dX11_isNumber_41 : decode cX11_isNumber 41 = .ok (.goto 10, 3) := by decide +kernel
theorem dX11_isNumber_44 : decode cX11_isNumber 44 = .ok (.iload_n 1, 1) := by decide +kernel
theorem dX11_isNumber_45 : decode cX11_isNumber 45 = .ok (.iconst 0, 1) := by decide +kernel
theorem dX11_isNumber_46 : decode cX11_isNumber 46 = .ok (.ldc 176, 2) := by decide +kernel
theorem dX11_isNumber_48 : decode cX11_isNumber 48 = .ok (.invokestatic 163, 3) := by decide +kernel
theorem dX11_isNumber_51 : decode cX11_isNumber 51 = .ok (.ireturn, 1) := by decide +kernel
theorem dX11_house_0 : decode cX11_house 0 = .ok (.iconst 0, 1) := by decide +kernel
theorem dX11_house_1 : decode cX11_house 1 = .ok (.iload_n 1, 1) := by decide +kernel
theorem dX11_house_2 : decode cX11_house 2 = .ok (.invokestatic 177, 3) := by decide +kernel
theorem dX11_house_5 : decode cX11_house 5 = .ok (.ifCond .eq 28, 3) := by decide +kernel
theorem dX11_house_8 : decode cX11_house 8 = .ok (.iconst 1, 1) := by decide +kernel
theorem dX11_house_9 : decode cX11_house 9 = .ok (.iload_n 2, 1) := by decide +kernel
theorem dX11_house_10 : decode cX11_house 10 = .ok (.invokestatic 177, 3) := by decide +kernel
theorem dX11_house_13 : decode cX11_house 13 = .ok (.ifCond .eq 20, 3) := by decide +kernel
theorem dX11_house_16 : decode cX11_house 16 = .ok (.iconst 2, 1) := by decide +kernel
theorem dX11_house_17 : decode cX11_house 17 = .ok (.iload_n 3, 1) := by decide +kernel
theorem dX11_house_18 : decode cX11_house 18 = .ok (.invokestatic 177, 3) := by decide +kernel
theorem dX11_house_21 : decode cX11_house 21 = .ok (.ifCond .eq 12, 3) := by decide +kernel
theorem dX11_house_24 : decode cX11_house 24 = .ok (.iconst 3, 1) := by decide +kernel
theorem dX11_house_25 : decode cX11_house 25 = .ok (.iload 4, 2) := by decide +kernel
theorem dX11_house_27 : decode cX11_house 27 = .ok (.invokestatic 177, 3) := by decide +kernel
theorem dX11_house_30 : decode cX11_house 30 = .ok (.ifCond .ne 6, 3) := by decide +kernel
theorem dX11_house_33 : decode cX11_house 33 = .ok (.bipush (-2), 2) := by decide +kernel
theorem dX11_house_35 : decode cX11_house 35 = .ok (.ireturn, 1) := by decide +kernel
theorem dX11_house_36 : decode cX11_house 36 = .ok (.aload_n 0, 1) := by decide +kernel
theorem dX11_house_37 : decode cX11_house 37 = .ok (.getfield 160, 3) := by decide +kernel
theorem dX11_house_40 : decode cX11_house 40 = .ok (.bipush 10, 2) := by decide +kernel
theorem dX11_house_42 : decode cX11_house 42 = .ok (.if_icmp .ne 6, 3) := by decide +kernel
theorem dX11_house_45 : decode cX11_house 45 = .ok (.bipush (-4), 2) := by decide +kernel
theorem dX11_house_47 : decode cX11_house 47 = .ok (.ireturn, 1) := by decide +kernel
theorem dX11_house_48 : decode cX11_house 48 = .ok (.aload_n 0, 1) := by decide +kernel
theorem dX11_house_49 : decode cX11_house 49 = .ok (.getfield 9, 3) := by decide +kernel
theorem dX11_house_52 : decode cX11_house 52 = .ok (.aload_n 0, 1) := by decide +kernel
theorem dX11_house_53 : decode cX11_house 53 = .ok (.getfield 160, 3) := by decide +kernel
theorem dX11_house_56 : decode cX11_house 56 = .ok (.aaload, 1) := by decide +kernel
theorem dX11_house_57 : decode cX11_house 57 = .ok (.iconst 0, 1) := by decide +kernel
theorem dX11_house_58 : decode cX11_house 58 = .ok (.iload_n 1, 1) := by decide +kernel
theorem dX11_house_59 : decode cX11_house 59 = .ok (.iastore, 1) := by decide +kernel
theorem dX11_house_60 : decode cX11_house 60 = .ok (.aload_n 0, 1) := by decide +kernel
theorem dX11_house_61 : decode cX11_house 61 = .ok (.getfield 9, 3) := by decide +kernel
theorem dX11_house_64 : decode cX11_house 64 = .ok (.aload_n 0, 1) := by decide +kernel
theorem dX11_house_65 : decode cX11_house 65 = .ok (.getfield 160, 3) := by decide +kernel
theorem dX11_house_68 : decode cX11_house 68 = .ok (.aaload, 1) := by decide +kernel
theorem dX11_house_69 : decode cX11_house 69 = .ok (.iconst 1, 1) := by decide +kernel
theorem dX11_house_70 : decode cX11_house 70 = .ok (.iload_n 2, 1) := by decide +kernel
theorem dX11_house_71 : decode cX11_house 71 = .ok (.iastore, 1) := by decide +kernel
theorem dX11_house_72 : decode cX11_house 72 = .ok (.aload_n 0, 1) := by decide +kernel
theorem dX11_house_73 : decode cX11_house 73 = .ok (.getfield 9, 3) := by decide +kernel
theorem dX11_house_76 : decode cX11_house 76 = .ok (.aload_n 0, 1) := by decide +kernel
theorem dX11_house_77 : decode cX11_house 77 = .ok (.getfield 160, 3) := by decide +kernel
theorem dX11_house_80 : decode cX11_house 80 = .ok (.aaload, 1) := by decide +kernel
theorem dX11_house_81 : decode cX11_house 81 = .ok (.iconst 2, 1) := by decide +kernel
theorem dX11_house_82 : decode cX11_house 82 = .ok (.iload_n 3, 1) := by decide +kernel
theorem dX11_house_83 : decode cX11_house 83 = .ok (.iastore, 1) := by decide +kernel
theorem dX11_house_84 : decode cX11_house 84 = .ok (.aload_n 0, 1) := by decide +kernel
theorem dX11_house_85 : decode cX11_house 85 = .ok (.getfield 9, 3) := by decide +kernel
theorem dX11_house_88 : decode cX11_house 88 = .ok (.aload_n 0, 1) := by decide +kernel
theorem dX11_house_89 : decode cX11_house 89 = .ok (.getfield 160, 3) := by decide +kernel
theorem dX11_house_92 : decode cX11_house 92 = .ok (.aaload, 1) := by decide +kernel
theorem dX11_house_93 : decode cX11_house 93 = .ok (.iconst 3, 1) := by decide +kernel
theorem dX11_house_94 : decode cX11_house 94 = .ok (.iload 4, 2) := by decide +kernel
theorem dX11_house_96 : decode cX11_house 96 = .ok (.iastore, 1) := by decide +kernel
theorem dX11_house_97 : decode cX11_house 97 = .ok (.aload_n 0, 1) := by decide +kernel
theorem dX11_house_98 : decode cX11_house 98 = .ok (.dup, 1) := by decide +kernel
theorem dX11_house_99 : decode cX11_house 99 = .ok (.getfield 160, 3) := by decide +kernel
theorem dX11_house_102 : decode cX11_house 102 = .ok (.dup_x1, 1) := by decide +kernel
theorem dX11_house_103 : decode cX11_house 103 = .ok (.iconst 1, 1) := by decide +kernel
theorem dX11_house_104 : decode cX11_house 104 = .ok (.iadd, 1) := by decide +kernel
theorem dX11_house_105 : decode cX11_house 105 = .ok (.putfield 160, 3) := by decide +kernel
theorem dX11_house_108 : decode cX11_house 108 = .ok (.ireturn, 1) := by decide +kernel
theorem dX11_change_0 : decode cX11_change 0 = .ok (.aload_n 0, 1) := by decide +kernel
theorem dX11_change_1 : decode cX11_change 1 = .ok (.iload_n 1, 1) := by decide +kernel
theorem dX11_change_2 : decode cX11_change 2 = .ok (.invokevirtual 181, 3) := by decide +kernel
theorem dX11_change_5 : decode cX11_change 5 = .ok (.ifCond .eq 12, 3) := by decide +kernel
theorem dX11_change_8 : decode cX11_change 8 = .ok (.iload_n 2, 1) := by decide +kernel
theorem dX11_change_9 : decode cX11_change 9 = .ok (.iconst 0, 1) := by decide +kernel
theorem dX11_change_10 : decode cX11_change 10 = .ok (.iconst 3, 1) := by decide +kernel
theorem dX11_change_11 : decode cX11_change 11 = .ok (.invokestatic 163, 3) := by decide +kernel
theorem dX11_change_14 : decode cX11_change 14 = .ok (.ifCond .ne 5, 3) := by decide +kernel
theorem dX11_change_17 : decode cX11_change 17 = .ok (.iconst (-1), 1) := by decide +kernel
theorem dX11_change_18 : decode cX11_change 18 = .ok (.ireturn, 1) := by decide +kernel
theorem dX11_change_19 : decode cX11_change 19 = .ok (.iload_n 2, 1) := by decide +kernel
theorem dX11_change_20 : decode cX11_change 20 = .ok (.iload_n 3, 1) := by decide +kernel
theorem dX11_change_21 : decode cX11_change 21 = .ok (.invokestatic 177, 3) := by decide +kernel
theorem dX11_change_24 : decode cX11_change 24 = .ok (.ifCond .eq 17, 3) := by decide +kernel
theorem dX11_change_27 : decode cX11_change 27 = .ok (.iload_n 2, 1) := by decide +kernel
theorem dX11_change_28 : decode cX11_change 28 = .ok (.iconst 2, 1) := by decide +kernel
theorem dX11_change_29 : decode cX11_change 29 = .ok (.if_icmp .ne 15, 3) := by decide +kernel
theorem dX11_change_32 : decode cX11_change 32 = .ok (.iload_n 3, 1) := by decide +kernel
theorem dX11_change_33 : decode cX11_change 33 = .ok (.aload_n 0, 1) := by decide +kernel
theorem dX11_change_34 : decode cX11_change 34 = .ok (.iload_n 1, 1) := by decide +kernel
theorem dX11_change_35 : decode cX11_change 35 = .ok (.invokevirtual 185, 3) := by decide +kernel
theorem dX11_change_38 : decode cX11_change 38 = .ok (.if_icmp .ge 6, 3) := by decide +kernel
theorem dX11_change_41 : decode cX11_change 41 = .ok (.bipush (-2), 2) := by decide +kernel
theorem dX11_change_43 : decode cX11_change 43 = .ok (.ireturn, 1) := by decide +kernel
theorem dX11_change_44 : decode cX11_change 44 = .ok (.aload_n 0, 1) := by decide +kernel
theorem dX11_change_45 : decode cX11_change 45 = .ok (.getfield 9, 3) := by decide +kernel
theorem dX11_change_48 : decode cX11_change 48 = .ok (.iload_n 1, 1) := by decide +kernel
theorem dX11_change_49 : decode cX11_change 49 = .ok (.aaload, 1) := by decide +kernel
theorem dX11_change_50 : decode cX11_change 50 = .ok (.iload_n 2, 1) := by decide +kernel
theorem dX11_change_51 : decode cX11_change 51 = .ok (.iaload, 1) := by decide +kernel
theorem dX11_change_52 : decode cX11_change 52 = .ok (.istore 4, 2) := by decide +kernel
theorem dX11_change_54 : decode cX11_change 54 = .ok (.aload_n 0, 1) := by decide +kernel
theorem dX11_change_55 : decode cX11_change 55 = .ok (.getfield 9, 3) := by decide +kernel
theorem dX11_change_58 : decode cX11_change 58 = .ok (.iload_n 1, 1) := by decide +kernel
theorem dX11_change_59 : decode cX11_change 59 = .ok (.aaload, 1) := by decide +kernel
theorem dX11_change_60 : decode cX11_change 60 = .ok (.iload_n 2, 1) := by decide +kernel
theorem dX11_change_61 : decode cX11_change 61 = .ok (.iload_n 3, 1) := by decide +kernel
theorem dX11_change_62 : decode cX11_change 62 = .ok (.iastore, 1) := by decide +kernel
theorem dX11_change_63 : decode cX11_change 63 = .ok (.iload 4, 2) := by decide +kernel
theorem dX11_change_65 : decode cX11_change 65 = .ok (.ireturn, 1) := by decide +kernel
theorem dX11_told_0 : decode cX11_told 0 = .ok (.aload_n 0, 1) := by decide +kernel
theorem dX11_told_1 : decode cX11_told 1 = .ok (.iload_n 1, 1) := by decide +kernel
theorem dX11_told_2 : decode cX11_told 2 = .ok (.invokevirtual 181, 3) := by decide +kernel
theorem dX11_told_5 : decode cX11_told 5 = .ok (.ifCond .ne 6, 3) := by decide +kernel
theorem dX11_told_8 : decode cX11_told 8 = .ok (.bipush (-5), 2) := by decide +kernel
theorem dX11_told_10 : decode cX11_told 10 = .ok (.ireturn, 1) := by decide +kernel
theorem dX11_told_11 : decode cX11_told 11 = .ok (.iload_n 2, 1) := by decide +kernel
theorem dX11_told_12 : decode cX11_told 12 = .ok (.tableswitch 141 0 12 #[68, 68, 68, 68, 68, 77, 92, 99, 106, 113, 120, 127, 134], 68) := by decide +kernel
theorem dX11_told_80 : decode cX11_told 80 = .ok (.aload_n 0, 1) := by decide +kernel
theorem dX11_told_81 : decode cX11_told 81 = .ok (.getfield 9, 3) := by decide +kernel
theorem dX11_told_84 : decode cX11_told 84 = .ok (.iload_n 1, 1) := by decide +kernel
theorem dX11_told_85 : decode cX11_told 85 = .ok (.aaload, 1) := by decide +kernel
theorem dX11_told_86 : decode cX11_told 86 = .ok (.iload_n 2, 1) := by decide +kernel
theorem dX11_told_87 : decode cX11_told 87 = .ok (.iaload, 1) := by decide +kernel
theorem dX11_told_88 : decode cX11_told 88 = .ok (.ireturn, 1) := by decide +kernel
theorem dX11_told_89 : decode cX11_told 89 = .ok (.aload_n 0, 1) := by decide +kernel
theorem dX11_told_90 : decode cX11_told 90 = .ok (.getfield 9, 3) := by decide +kernel
theorem dX11_told_93 : decode cX11_told 93 = .ok (.iload_n 1, 1) := by decide +kernel
theorem dX11_told_94 : decode cX11_told 94 = .ok (.aaload, 1) := by decide +kernel
theorem dX11_told_95 : decode cX11_told 95 = .ok (.iconst 2, 1) := by decide +kernel
theorem dX11_told_96 : decode cX11_told 96 = .ok (.iaload, 1) := by decide +kernel
theorem dX11_told_97 : decode cX11_told 97 = .ok (.aload_n 0, 1) := by decide +kernel
theorem dX11_told_98 : decode cX11_told 98 = .ok (.iload_n 1, 1) := by decide +kernel
theorem dX11_told_99 : decode cX11_told 99 = .ok (.invokevirtual 185, 3) := by decide +kernel
theorem dX11_told_102 : decode cX11_told 102 = .ok (.isub, 1) := by decide +kernel
theorem dX11_told_103 : decode cX11_told 103 = .ok (.ireturn, 1) := by decide +kernel
theorem dX11_told_104 : decode cX11_told 104 = .ok (.aload_n 0, 1) := by decide +kernel
theorem dX11_told_105 : decode cX11_told 105 = .ok (.getfield 14, 3) := by decide +kernel
theorem dX11_told_108 : decode cX11_told 108 = .ok (.iload_n 1, 1) := by decide +kernel
theorem dX11_told_109 : decode cX11_told 109 = .ok (.iaload, 1) := by decide +kernel
theorem dX11_told_110 : decode cX11_told 110 = .ok (.ireturn, 1) := by decide +kernel
theorem dX11_told_111 : decode cX11_told 111 = .ok (.aload_n 0, 1) := by decide +kernel
theorem dX11_told_112 : decode cX11_told 112 = .ok (.getfield 18, 3) := by decide +kernel
theorem dX11_told_115 : decode cX11_told 115 = .ok (.iload_n 1, 1) := by decide +kernel
theorem dX11_told_116 : decode cX11_told 116 = .ok (.iaload, 1) := by decide +kernel
theorem dX11_told_117 : decode cX11_told 117 = .ok (.ireturn, 1) := by decide +kernel
theorem dX11_told_118 : decode cX11_told 118 = .ok (.aload_n 0, 1) := by decide +kernel
theorem dX11_told_119 : decode cX11_told 119 = .ok (.getfield 21, 3) := by decide +kernel
theorem dX11_told_122 : decode cX11_told 122 = .ok (.iload_n 1, 1) := by decide +kernel
theorem dX11_told_123 : decode cX11_told 123 = .ok (.iaload, 1) := by decide +kernel
theorem dX11_told_124 : decode cX11_told 124 = .ok (.ireturn, 1) := by decide +kernel
theorem dX11_told_125 : decode cX11_told 125 = .ok (.aload_n 0, 1) := by decide +kernel
theorem dX11_told_126 : decode cX11_told 126 = .ok (.getfield 27, 3) := by decide +kernel
theorem dX11_told_129 : decode cX11_told 129 = .ok (.iload_n 1, 1) := by decide +kernel
theorem dX11_told_130 : decode cX11_told 130 = .ok (.iaload, 1) := by decide +kernel
theorem dX11_told_131 : decode cX11_told 131 = .ok (.ireturn, 1) := by decide +kernel
theorem dX11_told_132 : decode cX11_told 132 = .ok (.aload_n 0, 1) := by decide +kernel
theorem dX11_told_133 : decode cX11_told 133 = .ok (.getfield 30, 3) := by decide +kernel
theorem dX11_told_136 : decode cX11_told 136 = .ok (.iload_n 1, 1) := by decide +kernel
theorem dX11_told_137 : decode cX11_told 137 = .ok (.iaload, 1) := by decide +kernel
theorem dX11_told_138 : decode cX11_told 138 = .ok (.ireturn, 1) := by decide +kernel
theorem dX11_told_139 : decode cX11_told 139 = .ok (.aload_n 0, 1) := by decide +kernel
theorem dX11_told_140 : decode cX11_told 140 = .ok (.getfield 33, 3) := by decide +kernel
theorem dX11_told_143 : decode cX11_told 143 = .ok (.iload_n 1, 1) := by decide +kernel
theorem dX11_told_144 : decode cX11_told 144 = .ok (.iaload, 1) := by decide +kernel
theorem dX11_told_145 : decode cX11_told 145 = .ok (.ireturn, 1) := by decide +kernel
theorem dX11_told_146 : decode cX11_told 146 = .ok (.aload_n 0, 1) := by decide +kernel
theorem dX11_told_147 : decode cX11_told 147 = .ok (.getfield 36, 3) := by decide +kernel
theorem dX11_told_150 : decode cX11_told 150 = .ok (.iload_n 1, 1) := by decide +kernel
theorem dX11_told_151 : decode cX11_told 151 = .ok (.iaload, 1) := by decide +kernel
theorem dX11_told_152 : decode cX11_told 152 = .ok (.ireturn, 1) := by decide +kernel
theorem dX11_told_153 : decode cX11_told 153 = .ok (.bipush (-5), 2) := by decide +kernel
theorem dX11_told_155 : decode cX11_told 155 = .ok (.ireturn, 1) := by decide +kernel
theorem dX11_counts_0 : decode cX11_counts 0 = .ok (.iconst 0, 1) := by decide +kernel
theorem dX11_counts_1 : decode cX11_counts 1 = .ok (.istore_n 1, 1) := by decide +kernel
theorem dX11_counts_2 : decode cX11_counts 2 = .ok (.iconst 0, 1) := by decide +kernel
theorem dX11_counts_3 : decode cX11_counts 3 = .ok (.istore_n 2, 1) := by decide +kernel
theorem dX11_counts_4 : decode cX11_counts 4 = .ok (.iload_n 2, 1) := by decide +kernel
theorem dX11_counts_5 : decode cX11_counts 5 = .ok (.aload_n 0, 1) := by decide +kernel
theorem dX11_counts_6 : decode cX11_counts 6 = .ok (.getfield 160, 3) := by decide +kernel
theorem dX11_counts_9 : decode cX11_counts 9 = .ok (.if_icmp .ge 34, 3) := by decide +kernel
theorem dX11_counts_12 : decode cX11_counts 12 = .ok (.aload_n 0, 1) := by decide +kernel
theorem dX11_counts_13 : decode cX11_counts 13 = .ok (.getfield 27, 3) := by decide +kernel
theorem dX11_counts_16 : decode cX11_counts 16 = .ok (.iload_n 2, 1) := by decide +kernel
theorem dX11_counts_17 : decode cX11_counts 17 = .ok (.aload_n 0, 1) := by decide +kernel
theorem dX11_counts_18 : decode cX11_counts 18 = .ok (.getfield 9, 3) := by decide +kernel
theorem dX11_counts_21 : decode cX11_counts 21 = .ok (.iload_n 2, 1) := by decide +kernel
theorem dX11_counts_22 : decode cX11_counts 22 = .ok (.aaload, 1) := by decide +kernel
theorem dX11_counts_23 : decode cX11_counts 23 = .ok (.iconst 3, 1) := by decide +kernel
theorem dX11_counts_24 : decode cX11_counts 24 = .ok (.iaload, 1) := by decide +kernel
theorem dX11_counts_25 : decode cX11_counts 25 = .ok (.iastore, 1) := by decide +kernel
theorem dX11_counts_26 : decode cX11_counts 26 = .ok (.iload_n 1, 1) := by decide +kernel
theorem dX11_counts_27 : decode cX11_counts 27 = .ok (.aload_n 0, 1) := by decide +kernel
theorem dX11_counts_28 : decode cX11_counts 28 = .ok (.getfield 9, 3) := by decide +kernel
theorem dX11_counts_31 : decode cX11_counts 31 = .ok (.iload_n 2, 1) := by decide +kernel
theorem dX11_counts_32 : decode cX11_counts 32 = .ok (.aaload, 1) := by decide +kernel
theorem dX11_counts_33 : decode cX11_counts 33 = .ok (.iconst 3, 1) := by decide +kernel
theorem dX11_counts_34 : decode cX11_counts 34 = .ok (.iaload, 1) := by decide +kernel
theorem dX11_counts_35 : decode cX11_counts 35 = .ok (.iadd, 1) := by decide +kernel
theorem dX11_counts_36 : decode cX11_counts 36 = .ok (.istore_n 1, 1) := by decide +kernel
theorem dX11_counts_37 : decode cX11_counts 37 = .ok (.iinc 2 1, 3) := by decide +kernel
theorem dX11_counts_40 : decode cX11_counts 40 = .ok (.goto (-36), 3) := by decide +kernel
theorem dX11_counts_43 : decode cX11_counts 43 = .ok (.iload_n 1, 1) := by decide +kernel
theorem dX11_counts_44 : decode cX11_counts 44 = .ok (.ireturn, 1) := by decide +kernel
theorem dX11_commonOf_0 : decode cX11_commonOf 0 = .ok (.iload_n 0, 1) := by decide +kernel
theorem dX11_commonOf_1 : decode cX11_commonOf 1 = .ok (.iconst 1, 1) := by decide +kernel
theorem dX11_commonOf_2 : decode cX11_commonOf 2 = .ok (.if_icmp .eq 8, 3) := by decide +kernel
theorem dX11_commonOf_5 : decode cX11_commonOf 5 = .ok (.iload_n 0, 1) := by decide +kernel
theorem dX11_commonOf_6 : decode cX11_commonOf 6 = .ok (.iconst 4, 1) := by decide +kernel
theorem dX11_commonOf_7 : decode cX11_commonOf 7 = .ok (.if_icmp .ne 7, 3) := by decide +kernel
theorem dX11_commonOf_10 : decode cX11_commonOf 10 = .ok (.iconst 0, 1) := by decide +kernel
theorem dX11_commonOf_11 : decode cX11_commonOf 11 = .ok (.goto 22, 3) := by decide +kernel
theorem dX11_commonOf_14 : decode cX11_commonOf 14 = .ok (.iload_n 0, 1) := by decide +kernel
theorem dX11_commonOf_15 : decode cX11_commonOf 15 = .ok (.iconst 2, 1) := by decide +kernel
theorem dX11_commonOf_16 : decode cX11_commonOf 16 = .ok (.if_icmp .ne 7, 3) := by decide +kernel
theorem dX11_commonOf_19 : decode cX11_commonOf 19 = .ok (.iconst 1, 1) := by decide +kernel
theorem dX11_commonOf_20 : decode cX11_commonOf 20 = .ok (.goto 13, 3) := by decide +kernel
theorem dX11_commonOf_23 : decode cX11_commonOf 23 = .ok (.iload_n 0, 1) := by decide +kernel
theorem dX11_commonOf_24 : decode cX11_commonOf 24 = .ok (.iconst 3, 1) := by decide +kernel
theorem dX11_commonOf_25 : decode cX11_commonOf 25 = .ok (.if_icmp .ne 7, 3) := by decide +kernel
theorem dX11_commonOf_28 : decode cX11_commonOf 28 = .ok (.iconst 2, 1) := by decide +kernel
theorem dX11_commonOf_29 : decode cX11_commonOf 29 = .ok (.goto 4, 3) := by decide +kernel
theorem dX11_commonOf_32 : decode cX11_commonOf 32 = .ok (.iconst (-1), 1) := by decide +kernel
theorem dX11_commonOf_33 : decode cX11_commonOf 33 = .ok (.ireturn, 1) := by decide +kernel
theorem dX11_newRight_0 : decode cX11_newRight 0 = .ok (.aload_n 0, 1) := by decide +kernel
theorem dX11_newRight_1 : decode cX11_newRight 1 = .ok (.getfield 42, 3) := by decide +kernel
theorem dX11_newRight_4 : decode cX11_newRight 4 = .ok (.aload_n 0, 1) := by decide +kernel
theorem dX11_newRight_5 : decode cX11_newRight 5 = .ok (.getfield 167, 3) := by decide +kernel
theorem dX11_newRight_8 : decode cX11_newRight 8 = .ok (.iload_n 2, 1) := by decide +kernel
theorem dX11_newRight_9 : decode cX11_newRight 9 = .ok (.iastore, 1) := by decide +kernel
theorem dX11_newRight_10 : decode cX11_newRight 10 = .ok (.aload_n 0, 1) := by decide +kernel
theorem dX11_newRight_11 : decode cX11_newRight 11 = .ok (.getfield 45, 3) := by decide +kernel
theorem dX11_newRight_14 : decode cX11_newRight 14 = .ok (.aload_n 0, 1) := by decide +kernel
theorem dX11_newRight_15 : decode cX11_newRight 15 = .ok (.getfield 167, 3) := by decide +kernel
theorem dX11_newRight_18 : decode cX11_newRight 18 = .ok (.iload_n 1, 1) := by decide +kernel
theorem dX11_newRight_19 : decode cX11_newRight 19 = .ok (.iastore, 1) := by decide +kernel
theorem dX11_newRight_20 : decode cX11_newRight 20 = .ok (.aload_n 0, 1) := by decide +kernel
theorem dX11_newRight_21 : decode cX11_newRight 21 = .ok (.getfield 48, 3) := by decide +kernel
theorem dX11_newRight_24 : decode cX11_newRight 24 = .ok (.aload_n 0, 1) := by decide +kernel
theorem dX11_newRight_25 : decode cX11_newRight 25 = .ok (.getfield 167, 3) := by decide +kernel
theorem dX11_newRight_28 : decode cX11_newRight 28 = .ok (.iload_n 3, 1) := by decide +kernel
theorem dX11_newRight_29 : decode cX11_newRight 29 = .ok (.iastore, 1) := by decide +kernel
theorem dX11_newRight_30 : decode cX11_newRight 30 = .ok (.aload_n 0, 1) := by decide +kernel
theorem dX11_newRight_31 : decode cX11_newRight 31 = .ok (.getfield 54, 3) := by decide +kernel
theorem dX11_newRight_34 : decode cX11_newRight 34 = .ok (.aload_n 0, 1) := by decide +kernel
theorem dX11_newRight_35 : decode cX11_newRight 35 = .ok (.getfield 167, 3) := by decide +kernel
theorem dX11_newRight_38 : decode cX11_newRight 38 = .ok (.iconst (-1), 1) := by decide +kernel
theorem dX11_newRight_39 : decode cX11_newRight 39 = .ok (.iastore, 1) := by decide +kernel
theorem dX11_newRight_40 : decode cX11_newRight 40 = .ok (.aload_n 0, 1) := by decide +kernel
theorem dX11_newRight_41 : decode cX11_newRight 41 = .ok (.dup, 1) := by decide +kernel
theorem dX11_newRight_42 : decode cX11_newRight 42 = .ok (.getfield 167, 3) := by decide +kernel
theorem dX11_newRight_45 : decode cX11_newRight 45 = .ok (.dup_x1, 1) := by decide +kernel
theorem dX11_newRight_46 : decode cX11_newRight 46 = .ok (.iconst 1, 1) := by decide +kernel
theorem dX11_newRight_47 : decode cX11_newRight 47 = .ok (.iadd, 1) := by decide +kernel
theorem dX11_newRight_48 : decode cX11_newRight 48 = .ok (.putfield 167, 3) := by decide +kernel
theorem dX11_newRight_51 : decode cX11_newRight 51 = .ok (.ireturn, 1) := by decide +kernel
theorem dX11_right_0 : decode cX11_right 0 = .ok (.aload_n 0, 1) := by decide +kernel
theorem dX11_right_1 : decode cX11_right 1 = .ok (.iload_n 1, 1) := by decide +kernel
theorem dX11_right_2 : decode cX11_right 2 = .ok (.invokevirtual 181, 3) := by decide +kernel
theorem dX11_right_5 : decode cX11_right 5 = .ok (.ifCond .ne 5, 3) := by decide +kernel
theorem dX11_right_8 : decode cX11_right 8 = .ok (.iconst (-1), 1) := by decide +kernel
theorem dX11_right_9 : decode cX11_right 9 = .ok (.ireturn, 1) := by decide +kernel
theorem dX11_right_10 : decode cX11_right 10 = .ok (.iload_n 2, 1) := by decide +kernel
theorem dX11_right_11 : decode cX11_right 11 = .ok (.iconst 0, 1) := by decide +kernel
theorem dX11_right_12 : decode cX11_right 12 = .ok (.iconst 5, 1) := by decide +kernel
theorem dX11_right_13 : decode cX11_right 13 = .ok (.invokestatic 163, 3) := by decide +kernel
theorem dX11_right_16 : decode cX11_right 16 = .ok (.ifCond .eq 19, 3) := by decide +kernel
theorem dX11_right_19 : decode cX11_right 19 = .ok (.iload_n 2, 1) := by decide +kernel
theorem dX11_right_20 : decode cX11_right 20 = .ok (.iconst 4, 1) := by decide +kernel
theorem dX11_right_21 : decode cX11_right 21 = .ok (.if_icmp .eq 14, 3) := by decide +kernel
theorem dX11_right_24 : decode cX11_right 24 = .ok (.iload_n 3, 1) := by decide +kernel
theorem dX11_right_25 : decode cX11_right 25 = .ok (.iconst 1, 1) := by decide +kernel
theorem dX11_right_26 : decode cX11_right 26 = .ok (.sipush 999, 3) := by decide +kernel
theorem dX11_right_29 : decode cX11_right 29 = .ok (.invokestatic 163, 3) := by decide +kernel
theorem dX11_right_32 : decode cX11_right 32 = .ok (.ifCond .ne 6, 3) := by decide +kernel
theorem dX11_right_35 : decode cX11_right 35 = .ok (.bipush (-2), 2) := by decide +kernel
theorem dX11_right_37 : decode cX11_right 37 = .ok (.ireturn, 1) := by decide +kernel
theorem dX11_right_38 : decode cX11_right 38 = .ok (.aload_n 0, 1) := by decide +kernel
theorem dX11_right_39 : decode cX11_right 39 = .ok (.getfield 167, 3) := by decide +kernel
theorem dX11_right_42 : decode cX11_right 42 = .ok (.bipush 50, 2) := by decide +kernel
theorem dX11_right_44 : decode cX11_right 44 = .ok (.if_icmp .ne 8, 3) := by decide +kernel
theorem dX11_right_47 : decode cX11_right 47 = .ok (.bipush (-4), 2) := by decide +kernel
theorem dX11_right_49 : decode cX11_right 49 = .ok (.goto 10, 3) := by decide +kernel
theorem dX11_right_52 : decode cX11_right 52 = .ok (.aload_n 0, 1) := by decide +kernel
theorem dX11_right_53 : decode cX11_right 53 = .ok (.iload_n 1, 1) := by decide +kernel
theorem dX11_right_54 : decode cX11_right 54 = .ok (.iload_n 2, 1) := by decide +kernel
theorem dX11_right_55 : decode cX11_right 55 = .ok (.iload_n 3, 1) := by decide +kernel
theorem dX11_right_56 : decode cX11_right 56 = .ok (.invokevirtual 189, 3) := by decide +kernel
theorem dX11_right_59 : decode cX11_right 59 = .ok (.ireturn, 1) := by decide +kernel
theorem dX11_lent_0 : decode cX11_lent 0 = .ok (.aload_n 0, 1) := by decide +kernel
theorem dX11_lent_1 : decode cX11_lent 1 = .ok (.getfield 193, 3) := by decide +kernel
theorem dX11_lent_4 : decode cX11_lent 4 = .ok (.aload_n 0, 1) := by decide +kernel
theorem dX11_lent_5 : decode cX11_lent 5 = .ok (.getfield 54, 3) := by decide +kernel
theorem dX11_lent_8 : decode cX11_lent 8 = .ok (.iload_n 1, 1) := by decide +kernel
theorem dX11_lent_9 : decode cX11_lent 9 = .ok (.iaload, 1) := by decide +kernel
theorem dX11_lent_10 : decode cX11_lent 10 = .ok (.if_icmp .ge 7, 3) := by decide +kernel
theorem dX11_lent_13 : decode cX11_lent 13 = .ok (.iconst 1, 1) := by decide +kernel
theorem dX11_lent_14 : decode cX11_lent 14 = .ok (.goto 4, 3) := by decide +kernel
theorem dX11_lent_17 : decode cX11_lent 17 = .ok (.iconst 0, 1) := by decide +kernel
theorem dX11_lent_18 : decode cX11_lent 18 = .ok (.ireturn, 1) := by decide +kernel
theorem dX11_holder_0 : decode cX11_holder 0 = .ok (.aload_n 0, 1) := by decide +kernel
theorem dX11_holder_1 : decode cX11_holder 1 = .ok (.iload_n 1, 1) := by decide +kernel
theorem dX11_holder_2 : decode cX11_holder 2 = .ok (.invokevirtual 196, 3) := by decide +kernel
theorem dX11_holder_5 : decode cX11_holder 5 = .ok (.ifCond .eq 12, 3) := by decide +kernel
theorem dX11_holder_8 : decode cX11_holder 8 = .ok (.aload_n 0, 1) := by decide +kernel
theorem dX11_holder_9 : decode cX11_holder 9 = .ok (.getfield 51, 3) := by decide +kernel
theorem dX11_holder_12 : decode cX11_holder 12 = .ok (.iload_n 1, 1) := by decide +kernel
theorem dX11_holder_13 : decode cX11_holder 13 = .ok (.iaload, 1) := by decide +kernel
theorem dX11_holder_14 : decode cX11_holder 14 = .ok (.goto 9, 3) := by decide +kernel
theorem dX11_holder_17 : decode cX11_holder 17 = .ok (.aload_n 0, 1) := by decide +kernel
theorem dX11_holder_18 : decode cX11_holder 18 = .ok (.getfield 45, 3) := by decide +kernel
theorem dX11_holder_21 : decode cX11_holder 21 = .ok (.iload_n 1, 1) := by decide +kernel
theorem dX11_holder_22 : decode cX11_holder 22 = .ok (.iaload, 1) := by decide +kernel
theorem dX11_holder_23 : decode cX11_holder 23 = .ok (.ireturn, 1) := by decide +kernel
theorem dX11_split_0 : decode cX11_split 0 = .ok (.aload_n 0, 1) := by decide +kernel
theorem dX11_split_1 : decode cX11_split 1 = .ok (.iload_n 1, 1) := by decide +kernel
theorem dX11_split_2 : decode cX11_split 2 = .ok (.invokevirtual 199, 3) := by decide +kernel
theorem dX11_split_5 : decode cX11_split 5 = .ok (.ifCond .ne 5, 3) := by decide +kernel
theorem dX11_split_8 : decode cX11_split 8 = .ok (.iconst (-1), 1) := by decide +kernel
theorem dX11_split_9 : decode cX11_split 9 = .ok (.ireturn, 1) := by decide +kernel
theorem dX11_split_10 : decode cX11_split 10 = .ok (.iload_n 2, 1) := by decide +kernel
theorem dX11_split_11 : decode cX11_split 11 = .ok (.iconst 1, 1) := by decide +kernel
theorem dX11_split_12 : decode cX11_split 12 = .ok (.aload_n 0, 1) := by decide +kernel
theorem dX11_split_13 : decode cX11_split 13 = .ok (.getfield 48, 3) := by decide +kernel
theorem dX11_split_16 : decode cX11_split 16 = .ok (.iload_n 1, 1) := by decide +kernel
theorem dX11_split_17 : decode cX11_split 17 = .ok (.iaload, 1) := by decide +kernel
theorem dX11_split_18 : decode cX11_split 18 = .ok (.iconst 1, 1) := by decide +kernel
theorem dX11_split_19 : decode cX11_split 19 = .ok (.isub, 1) := by decide +kernel
theorem dX11_split_20 : decode cX11_split 20 = .ok (.invokestatic 163, 3) := by decide +kernel
theorem dX11_split_23 : decode cX11_split 23 = .ok (.ifCond .ne 6, 3) := by decide +kernel
theorem dX11_split_26 : decode cX11_split 26 = .ok (.bipush (-2), 2) := by decide +kernel
theorem dX11_split_28 : decode cX11_split 28 = .ok (.ireturn, 1) := by decide +kernel
theorem dX11_split_29 : decode cX11_split 29 = .ok (.aload_n 0, 1) := by decide +kernel
theorem dX11_split_30 : decode cX11_split 30 = .ok (.getfield 42, 3) := by decide +kernel
theorem dX11_split_33 : decode cX11_split 33 = .ok (.iload_n 1, 1) := by decide +kernel
theorem dX11_split_34 : decode cX11_split 34 = .ok (.iaload, 1) := by decide +kernel
theorem dX11_split_35 : decode cX11_split 35 = .ok (.invokestatic 202, 3) := by decide +kernel
theorem dX11_split_38 : decode cX11_split 38 = .ok (.iconst (-1), 1) := by decide +kernel
theorem dX11_split_39 : decode cX11_split 39 = .ok (.if_icmp .eq 11, 3) := by decide +kernel
theorem dX11_split_42 : decode cX11_split 42 = .ok (.aload_n 0, 1) := by decide +kernel
theorem dX11_split_43 : decode cX11_split 43 = .ok (.iload_n 1, 1) := by decide +kernel
theorem dX11_split_44 : decode cX11_split 44 = .ok (.invokevirtual 196, 3) := by decide +kernel
theorem dX11_split_47 : decode cX11_split 47 = .ok (.ifCond .eq 6, 3) := by decide +kernel
theorem dX11_split_50 : decode cX11_split 50 = .ok (.bipush (-3), 2) := by decide +kernel
theorem dX11_split_52 : decode cX11_split 52 = .ok (.ireturn, 1) := by decide +kernel
theorem dX11_split_53 : decode cX11_split 53 = .ok (.aload_n 0, 1) := by decide +kernel
theorem dX11_split_54 : decode cX11_split 54 = .ok (.getfield 167, 3) := by decide +kernel
theorem dX11_split_57 : decode cX11_split 57 = .ok (.bipush 50, 2) := by decide +kernel
theorem dX11_split_59 : decode cX11_split 59 = .ok (.if_icmp .ne 6, 3) := by decide +kernel
theorem dX11_split_62 : decode cX11_split 62 = .ok (.bipush (-4), 2) := by decide +kernel
theorem dX11_split_64 : decode cX11_split 64 = .ok (.ireturn, 1) := by decide +kernel
theorem dX11_split_65 : decode cX11_split 65 = .ok (.aload_n 0, 1) := by decide +kernel
theorem dX11_split_66 : decode cX11_split 66 = .ok (.getfield 48, 3) := by decide +kernel
theorem dX11_split_69 : decode cX11_split 69 = .ok (.iload_n 1, 1) := by decide +kernel
theorem dX11_split_70 : decode cX11_split 70 = .ok (.dup2, 1) := by decide +kernel
theorem dX11_split_71 : decode cX11_split 71 = .ok (.iaload, 1) := by decide +kernel
theorem dX11_split_72 : decode cX11_split 72 = .ok (.iload_n 2, 1) := by decide +kernel
theorem dX11_split_73 : decode cX11_split 73 = .ok (.isub, 1) := by decide +kernel
theorem dX11_split_74 : decode cX11_split 74 = .ok (.iastore, 1) := by decide +kernel
theorem dX11_split_75 : decode cX11_split 75 = .ok (.aload_n 0, 1) := by decide +kernel
theorem dX11_split_76 : decode cX11_split 76 = .ok (.aload_n 0, 1) := by decide +kernel
theorem dX11_split_77 : decode cX11_split 77 = .ok (.getfield 45, 3) := by decide +kernel
theorem dX11_split_80 : decode cX11_split 80 = .ok (.iload_n 1, 1) := by decide +kernel
theorem dX11_split_81 : decode cX11_split 81 = .ok (.iaload, 1) := by decide +kernel
theorem dX11_split_82 : decode cX11_split 82 = .ok (.aload_n 0, 1) := by decide +kernel
theorem dX11_split_83 : decode cX11_split 83 = .ok (.getfield 42, 3) := by decide +kernel
theorem dX11_split_86 : decode cX11_split 86 = .ok (.iload_n 1, 1) := by decide +kernel
theorem dX11_split_87 : decode cX11_split 87 = .ok (.iaload, 1) := by decide +kernel
theorem dX11_split_88 : decode cX11_split 88 = .ok (.invokestatic 202, 3) := by decide +kernel
theorem dX11_split_91 : decode cX11_split 91 = .ok (.ifCond .ne 7, 3) := by decide +kernel
theorem dX11_split_94 : decode cX11_split 94 = .ok (.iconst 4, 1) := by decide +kernel
theorem dX11_split_95 : decode cX11_split 95 = .ok (.goto 9, 3) := by decide +kernel
theorem dX11_split_98 : decode cX11_split 98 = .ok (.aload_n 0, 1) := by decide +kernel
theorem dX11_split_99 : decode cX11_split 99 = .ok (.getfield 42, 3) := by decide +kernel
theorem dX11_split_102 : decode cX11_split 102 = .ok (.iload_n 1, 1) := by decide +kernel
theorem dX11_split_103 : decode cX11_split 103 = .ok (.iaload, 1) := by decide +kernel
theorem dX11_split_104 : decode cX11_split 104 = .ok (.iload_n 2, 1) := by decide +kernel
theorem dX11_split_105 : decode cX11_split 105 = .ok (.invokevirtual 189, 3) := by decide +kernel
theorem dX11_split_108 : decode cX11_split 108 = .ok (.ireturn, 1) := by decide +kernel
theorem dX11_join_0 : decode cX11_join 0 = .ok (.aload_n 0, 1) := by decide +kernel
theorem dX11_join_1 : decode cX11_join 1 = .ok (.iload_n 1, 1) := by decide +kernel
theorem dX11_join_2 : decode cX11_join 2 = .ok (.invokevirtual 199, 3) := by decide +kernel
theorem dX11_join_5 : decode cX11_join 5 = .ok (.ifCond .eq 11, 3) := by decide +kernel
theorem dX11_join_8 : decode cX11_join 8 = .ok (.aload_n 0, 1) := by decide +kernel
theorem dX11_join_9 : decode cX11_join 9 = .ok (.iload_n 2, 1) := by decide +kernel
theorem dX11_join_10 : decode cX11_join 10 = .ok (.invokevirtual 199, 3) := by decide +kernel
theorem dX11_join_13 : decode cX11_join 13 = .ok (.ifCond .ne 5, 3) := by decide +kernel
theorem dX11_join_16 : decode cX11_join 16 = .ok (.iconst (-1), 1) := by decide +kernel
theorem dX11_join_17 : decode cX11_join 17 = .ok (.ireturn, 1) := by decide +kernel
theorem dX11_join_18 : decode cX11_join 18 = .ok (.iload_n 1, 1) := by decide +kernel
theorem dX11_join_19 : decode cX11_join 19 = .ok (.iload_n 2, 1) := by decide +kernel
theorem dX11_join_20 : decode cX11_join 20 = .ok (.if_icmp .ne 6, 3) := by decide +kernel
theorem dX11_join_23 : decode cX11_join 23 = .ok (.bipush (-2), 2) := by decide +kernel
theorem dX11_join_25 : decode cX11_join 25 = .ok (.ireturn, 1) := by decide +kernel
theorem dX11_join_26 : decode cX11_join 26 = .ok (.aload_n 0, 1) := by decide +kernel
theorem dX11_join_27 : decode cX11_join 27 = .ok (.getfield 42, 3) := by decide +kernel
theorem dX11_join_30 : decode cX11_join 30 = .ok (.iload_n 1, 1) := by decide +kernel
theorem dX11_join_31 : decode cX11_join 31 = .ok (.iaload, 1) := by decide +kernel
theorem dX11_join_32 : decode cX11_join 32 = .ok (.invokestatic 202, 3) := by decide +kernel
theorem dX11_join_35 : decode cX11_join 35 = .ok (.istore_n 3, 1) := by decide +kernel
theorem dX11_join_36 : decode cX11_join 36 = .ok (.iload_n 3, 1) := by decide +kernel
theorem dX11_join_37 : decode cX11_join 37 = .ok (.iconst (-1), 1) := by decide +kernel
theorem dX11_join_38 : decode cX11_join 38 = .ok (.if_icmp .eq 65, 3) := by decide +kernel
theorem dX11_join_41 : decode cX11_join 41 = .ok (.iload_n 3, 1) := by decide +kernel
theorem dX11_join_42 : decode cX11_join 42 = .ok (.aload_n 0, 1) := by decide +kernel
theorem dX11_join_43 : decode cX11_join 43 = .ok (.getfield 42, 3) := by decide +kernel
theorem dX11_join_46 : decode cX11_join 46 = .ok (.iload_n 2, 1) := by decide +kernel
theorem dX11_join_47 : decode cX11_join 47 = .ok (.iaload, 1) := by decide +kernel
theorem dX11_join_48 : decode cX11_join 48 = .ok (.invokestatic 202, 3) := by decide +kernel
theorem dX11_join_51 : decode cX11_join 51 = .ok (.if_icmp .ne 52, 3) := by decide +kernel
theorem dX11_join_54 : decode cX11_join 54 = .ok (.aload_n 0, 1) := by decide +kernel
theorem dX11_join_55 : decode cX11_join 55 = .ok (.getfield 45, 3) := by decide +kernel
theorem dX11_join_58 : decode cX11_join 58 = .ok (.iload_n 1, 1) := by decide +kernel
theorem dX11_join_59 : decode cX11_join 59 = .ok (.iaload, 1) := by decide +kernel
theorem dX11_join_60 : decode cX11_join 60 = .ok (.aload_n 0, 1) := by decide +kernel
theorem dX11_join_61 : decode cX11_join 61 = .ok (.getfield 45, 3) := by decide +kernel
theorem dX11_join_64 : decode cX11_join 64 = .ok (.iload_n 2, 1) := by decide +kernel
theorem dX11_join_65 : decode cX11_join 65 = .ok (.iaload, 1) := by decide +kernel
theorem dX11_join_66 : decode cX11_join 66 = .ok (.if_icmp .ne 37, 3) := by decide +kernel
theorem dX11_join_69 : decode cX11_join 69 = .ok (.aload_n 0, 1) := by decide +kernel
theorem dX11_join_70 : decode cX11_join 70 = .ok (.iload_n 1, 1) := by decide +kernel
theorem dX11_join_71 : decode cX11_join 71 = .ok (.invokevirtual 196, 3) := by decide +kernel
theorem dX11_join_74 : decode cX11_join 74 = .ok (.ifCond .ne 29, 3) := by decide +kernel
theorem dX11_join_77 : decode cX11_join 77 = .ok (.aload_n 0, 1) := by decide +kernel
theorem dX11_join_78 : decode cX11_join 78 = .ok (.iload_n 2, 1) := by decide +kernel
theorem dX11_join_79 : decode cX11_join 79 = .ok (.invokevirtual 196, 3) := by decide +kernel
theorem dX11_join_82 : decode cX11_join 82 = .ok (.ifCond .ne 21, 3) := by decide +kernel
theorem dX11_join_85 : decode cX11_join 85 = .ok (.aload_n 0, 1) := by decide +kernel
theorem dX11_join_86 : decode cX11_join 86 = .ok (.getfield 48, 3) := by decide +kernel
theorem dX11_join_89 : decode cX11_join 89 = .ok (.iload_n 1, 1) := by decide +kernel
theorem dX11_join_90 : decode cX11_join 90 = .ok (.iaload, 1) := by decide +kernel
theorem dX11_join_91 : decode cX11_join 91 = .ok (.ifCond .eq 12, 3) := by decide +kernel
theorem dX11_join_94 : decode cX11_join 94 = .ok (.aload_n 0, 1) := by decide +kernel
theorem dX11_join_95 : decode cX11_join 95 = .ok (.getfield 48, 3) := by decide +kernel
theorem dX11_join_98 : decode cX11_join 98 = .ok (.iload_n 2, 1) := by decide +kernel
theorem dX11_join_99 : decode cX11_join 99 = .ok (.iaload, 1) := by decide +kernel
theorem dX11_join_100 : decode cX11_join 100 = .ok (.ifCond .ne 6, 3) := by decide +kernel
theorem dX11_join_103 : decode cX11_join 103 = .ok (.bipush (-3), 2) := by decide +kernel
theorem dX11_join_105 : decode cX11_join 105 = .ok (.ireturn, 1) := by decide +kernel
theorem dX11_join_106 : decode cX11_join 106 = .ok (.aload_n 0, 1) := by decide +kernel
theorem dX11_join_107 : decode cX11_join 107 = .ok (.getfield 48, 3) := by decide +kernel
theorem dX11_join_110 : decode cX11_join 110 = .ok (.iload_n 2, 1) := by decide +kernel
theorem dX11_join_111 : decode cX11_join 111 = .ok (.dup2, 1) := by decide +kernel
theorem dX11_join_112 : decode cX11_join 112 = .ok (.iaload, 1) := by decide +kernel
theorem dX11_join_113 : decode cX11_join 113 = .ok (.aload_n 0, 1) := by decide +kernel
theorem dX11_join_114 : decode cX11_join 114 = .ok (.getfield 48, 3) := by decide +kernel
theorem dX11_join_117 : decode cX11_join 117 = .ok (.iload_n 1, 1) := by decide +kernel
theorem dX11_join_118 : decode cX11_join 118 = .ok (.iaload, 1) := by decide +kernel
theorem dX11_join_119 : decode cX11_join 119 = .ok (.iadd, 1) := by decide +kernel
theorem dX11_join_120 : decode cX11_join 120 = .ok (.iastore, 1) := by decide +kernel
theorem dX11_join_121 : decode cX11_join 121 = .ok (.aload_n 0, 1) := by decide +kernel
theorem dX11_join_122 : decode cX11_join 122 = .ok (.getfield 48, 3) := by decide +kernel
theorem dX11_join_125 : decode cX11_join 125 = .ok (.iload_n 1, 1) := by decide +kernel
theorem dX11_join_126 : decode cX11_join 126 = .ok (.iconst 0, 1) := by decide +kernel
theorem dX11_join_127 : decode cX11_join 127 = .ok (.iastore, 1) := by decide +kernel
theorem dX11_join_128 : decode cX11_join 128 = .ok (.aload_n 0, 1) := by decide +kernel
theorem dX11_join_129 : decode cX11_join 129 = .ok (.getfield 48, 3) := by decide +kernel
theorem dX11_join_132 : decode cX11_join 132 = .ok (.iload_n 2, 1) := by decide +kernel
theorem dX11_join_133 : decode cX11_join 133 = .ok (.iaload, 1) := by decide +kernel
theorem dX11_join_134 : decode cX11_join 134 = .ok (.ireturn, 1) := by decide +kernel
theorem dX11_lend_0 : decode cX11_lend 0 = .ok (.aload_n 0, 1) := by decide +kernel
theorem dX11_lend_1 : decode cX11_lend 1 = .ok (.iload_n 1, 1) := by decide +kernel
theorem dX11_lend_2 : decode cX11_lend 2 = .ok (.invokevirtual 199, 3) := by decide +kernel
theorem dX11_lend_5 : decode cX11_lend 5 = .ok (.ifCond .eq 11, 3) := by decide +kernel
theorem dX11_lend_8 : decode cX11_lend 8 = .ok (.aload_n 0, 1) := by decide +kernel
theorem dX11_lend_9 : decode cX11_lend 9 = .ok (.iload_n 2, 1) := by decide +kernel
theorem dX11_lend_10 : decode cX11_lend 10 = .ok (.invokevirtual 181, 3) := by decide +kernel
theorem dX11_lend_13 : decode cX11_lend 13 = .ok (.ifCond .ne 5, 3) := by decide +kernel
theorem dX11_lend_16 : decode cX11_lend 16 = .ok (.iconst (-1), 1) := by decide +kernel
theorem dX11_lend_17 : decode cX11_lend 17 = .ok (.ireturn, 1) := by decide +kernel
theorem dX11_lend_18 : decode cX11_lend 18 = .ok (.iload_n 3, 1) := by decide +kernel
theorem dX11_lend_19 : decode cX11_lend 19 = .ok (.aload_n 0, 1) := by decide +kernel
theorem dX11_lend_20 : decode cX11_lend 20 = .ok (.getfield 193, 3) := by decide +kernel
theorem dX11_lend_23 : decode cX11_lend 23 = .ok (.iconst 1, 1) := by decide +kernel
theorem dX11_lend_24 : decode cX11_lend 24 = .ok (.iadd, 1) := by decide +kernel
theorem dX11_lend_25 : decode cX11_lend 25 = .ok (.sipush 7199, 3) := by decide +kernel
theorem dX11_lend_28 : decode cX11_lend 28 = .ok (.invokestatic 163, 3) := by decide +kernel
theorem dX11_lend_31 : decode cX11_lend 31 = .ok (.ifCond .ne 6, 3) := by decide +kernel
theorem dX11_lend_34 : decode cX11_lend 34 = .ok (.bipush (-2), 2) := by decide +kernel
theorem dX11_lend_36 : decode cX11_lend 36 = .ok (.ireturn, 1) := by decide +kernel
theorem dX11_lend_37 : decode cX11_lend 37 = .ok (.aload_n 0, 1) := by decide +kernel
theorem dX11_lend_38 : decode cX11_lend 38 = .ok (.iload_n 1, 1) := by decide +kernel
theorem dX11_lend_39 : decode cX11_lend 39 = .ok (.invokevirtual 196, 3) := by decide +kernel
theorem dX11_lend_42 : decode cX11_lend 42 = .ok (.ifCond .ne 23, 3) := by decide +kernel
theorem dX11_lend_45 : decode cX11_lend 45 = .ok (.aload_n 0, 1) := by decide +kernel
theorem dX11_lend_46 : decode cX11_lend 46 = .ok (.getfield 45, 3) := by decide +kernel
theorem dX11_lend_49 : decode cX11_lend 49 = .ok (.iload_n 1, 1) := by decide +kernel
theorem dX11_lend_50 : decode cX11_lend 50 = .ok (.iaload, 1) := by decide +kernel
theorem dX11_lend_51 : decode cX11_lend 51 = .ok (.iload_n 2, 1) := by decide +kernel
theorem dX11_lend_52 : decode cX11_lend 52 = .ok (.if_icmp .eq 13, 3) := by decide +kernel
theorem dX11_lend_55 : decode cX11_lend 55 = .ok (.aload_n 0, 1) := by decide +kernel
theorem dX11_lend_56 : decode cX11_lend 56 = .ok (.getfield 42, 3) := by decide +kernel
theorem dX11_lend_59 : decode cX11_lend 59 = .ok (.iload_n 1, 1) := by decide +kernel
theorem dX11_lend_60 : decode cX11_lend 60 = .ok (.iaload, 1) := by decide +kernel
theorem dX11_lend_61 : decode cX11_lend 61 = .ok (.iconst 5, 1) := by decide +kernel
theorem dX11_lend_62 : decode cX11_lend 62 = .ok (.if_icmp .ne 6, 3) := by decide +kernel
theorem dX11_lend_65 : decode cX11_lend 65 = .ok (.bipush (-3), 2) := by decide +kernel
theorem dX11_lend_67 : decode cX11_lend 67 = .ok (.ireturn, 1) := by decide +kernel
theorem dX11_lend_68 : decode cX11_lend 68 = .ok (.aload_n 0, 1) := by decide +kernel
theorem dX11_lend_69 : decode cX11_lend 69 = .ok (.getfield 51, 3) := by decide +kernel
theorem dX11_lend_72 : decode cX11_lend 72 = .ok (.iload_n 1, 1) := by decide +kernel
theorem dX11_lend_73 : decode cX11_lend 73 = .ok (.iload_n 2, 1) := by decide +kernel
theorem dX11_lend_74 : decode cX11_lend 74 = .ok (.iastore, 1) := by decide +kernel
theorem dX11_lend_75 : decode cX11_lend 75 = .ok (.aload_n 0, 1) := by decide +kernel
theorem dX11_lend_76 : decode cX11_lend 76 = .ok (.getfield 54, 3) := by decide +kernel
theorem dX11_lend_79 : decode cX11_lend 79 = .ok (.iload_n 1, 1) := by decide +kernel
theorem dX11_lend_80 : decode cX11_lend 80 = .ok (.iload_n 3, 1) := by decide +kernel
theorem dX11_lend_81 : decode cX11_lend 81 = .ok (.iastore, 1) := by decide +kernel
theorem dX11_lend_82 : decode cX11_lend 82 = .ok (.iconst 1, 1) := by decide +kernel
theorem dX11_lend_83 : decode cX11_lend 83 = .ok (.ireturn, 1) := by decide +kernel
theorem dX11_leave_0 : decode cX11_leave 0 = .ok (.aload_n 0, 1) := by decide +kernel
theorem dX11_leave_1 : decode cX11_leave 1 = .ok (.iload_n 1, 1) := by decide +kernel
theorem dX11_leave_2 : decode cX11_leave 2 = .ok (.invokevirtual 199, 3) := by decide +kernel
theorem dX11_leave_5 : decode cX11_leave 5 = .ok (.ifCond .eq 11, 3) := by decide +kernel
theorem dX11_leave_8 : decode cX11_leave 8 = .ok (.aload_n 0, 1) := by decide +kernel
theorem dX11_leave_9 : decode cX11_leave 9 = .ok (.iload_n 2, 1) := by decide +kernel
theorem dX11_leave_10 : decode cX11_leave 10 = .ok (.invokevirtual 181, 3) := by decide +kernel
theorem dX11_leave_13 : decode cX11_leave 13 = .ok (.ifCond .ne 5, 3) := by decide +kernel
theorem dX11_leave_16 : decode cX11_leave 16 = .ok (.iconst (-1), 1) := by decide +kernel
theorem dX11_leave_17 : decode cX11_leave 17 = .ok (.ireturn, 1) := by decide +kernel
theorem dX11_leave_18 : decode cX11_leave 18 = .ok (.aload_n 0, 1) := by decide +kernel
theorem dX11_leave_19 : decode cX11_leave 19 = .ok (.getfield 42, 3) := by decide +kernel
theorem dX11_leave_22 : decode cX11_leave 22 = .ok (.iload_n 1, 1) := by decide +kernel
theorem dX11_leave_23 : decode cX11_leave 23 = .ok (.iaload, 1) := by decide +kernel
theorem dX11_leave_24 : decode cX11_leave 24 = .ok (.iconst 5, 1) := by decide +kernel
theorem dX11_leave_25 : decode cX11_leave 25 = .ok (.if_icmp .ne 6, 3) := by decide +kernel
theorem dX11_leave_28 : decode cX11_leave 28 = .ok (.bipush (-3), 2) := by decide +kernel
theorem dX11_leave_30 : decode cX11_leave 30 = .ok (.ireturn, 1) := by decide +kernel
theorem dX11_leave_31 : decode cX11_leave 31 = .ok (.aload_n 0, 1) := by decide +kernel
theorem dX11_leave_32 : decode cX11_leave 32 = .ok (.getfield 45, 3) := by decide +kernel
theorem dX11_leave_35 : decode cX11_leave 35 = .ok (.iload_n 1, 1) := by decide +kernel
theorem dX11_leave_36 : decode cX11_leave 36 = .ok (.iaload, 1) := by decide +kernel
theorem dX11_leave_37 : decode cX11_leave 37 = .ok (.istore_n 3, 1) := by decide +kernel
theorem dX11_leave_38 : decode cX11_leave 38 = .ok (.aload_n 0, 1) := by decide +kernel
theorem dX11_leave_39 : decode cX11_leave 39 = .ok (.getfield 45, 3) := by decide +kernel
theorem dX11_leave_42 : decode cX11_leave 42 = .ok (.iload_n 1, 1) := by decide +kernel
theorem dX11_leave_43 : decode cX11_leave 43 = .ok (.iload_n 2, 1) := by decide +kernel
theorem dX11_leave_44 : decode cX11_leave 44 = .ok (.iastore, 1) := by decide +kernel
theorem dX11_leave_45 : decode cX11_leave 45 = .ok (.iload_n 3, 1) := by decide +kernel
theorem dX11_leave_46 : decode cX11_leave 46 = .ok (.ireturn, 1) := by decide +kernel
theorem dX11_rightOf_0 : decode cX11_rightOf 0 = .ok (.aload_n 0, 1) := by decide +kernel
theorem dX11_rightOf_1 : decode cX11_rightOf 1 = .ok (.iload_n 1, 1) := by decide +kernel
theorem dX11_rightOf_2 : decode cX11_rightOf 2 = .ok (.invokevirtual 199, 3) := by decide +kernel
theorem dX11_rightOf_5 : decode cX11_rightOf 5 = .ok (.ifCond .ne 6, 3) := by decide +kernel
theorem dX11_rightOf_8 : decode cX11_rightOf 8 = .ok (.bipush (-5), 2) := by decide +kernel
theorem dX11_rightOf_10 : decode cX11_rightOf 10 = .ok (.ireturn, 1) := by decide +kernel
theorem dX11_rightOf_11 : decode cX11_rightOf 11 = .ok (.iload_n 2, 1) := by decide +kernel
theorem dX11_rightOf_12 : decode cX11_rightOf 12 = .ok (.tableswitch 96 0 5 #[40, 47, 54, 61, 67, 77], 40) := by decide +kernel
theorem dX11_rightOf_52 : decode cX11_rightOf 52 = .ok (.aload_n 0, 1) := by decide +kernel
theorem dX11_rightOf_53 : decode cX11_rightOf 53 = .ok (.getfield 42, 3) := by decide +kernel
theorem dX11_rightOf_56 : decode cX11_rightOf 56 = .ok (.iload_n 1, 1) := by decide +kernel
theorem dX11_rightOf_57 : decode cX11_rightOf 57 = .ok (.iaload, 1) := by decide +kernel
theorem dX11_rightOf_58 : decode cX11_rightOf 58 = .ok (.ireturn, 1) := by decide +kernel
theorem dX11_rightOf_59 : decode cX11_rightOf 59 = .ok (.aload_n 0, 1) := by decide +kernel
theorem dX11_rightOf_60 : decode cX11_rightOf 60 = .ok (.getfield 45, 3) := by decide +kernel
theorem dX11_rightOf_63 : decode cX11_rightOf 63 = .ok (.iload_n 1, 1) := by decide +kernel
theorem dX11_rightOf_64 : decode cX11_rightOf 64 = .ok (.iaload, 1) := by decide +kernel
theorem dX11_rightOf_65 : decode cX11_rightOf 65 = .ok (.ireturn, 1) := by decide +kernel
theorem dX11_rightOf_66 : decode cX11_rightOf 66 = .ok (.aload_n 0, 1) := by decide +kernel
theorem dX11_rightOf_67 : decode cX11_rightOf 67 = .ok (.getfield 48, 3) := by decide +kernel
theorem dX11_rightOf_70 : decode cX11_rightOf 70 = .ok (.iload_n 1, 1) := by decide +kernel
theorem dX11_rightOf_71 : decode cX11_rightOf 71 = .ok (.iaload, 1) := by decide +kernel
theorem dX11_rightOf_72 : decode cX11_rightOf 72 = .ok (.ireturn, 1) := by decide +kernel
theorem dX11_rightOf_73 : decode cX11_rightOf 73 = .ok (.aload_n 0, 1) := by decide +kernel
theorem dX11_rightOf_74 : decode cX11_rightOf 74 = .ok (.iload_n 1, 1) := by decide +kernel
theorem dX11_rightOf_75 : decode cX11_rightOf 75 = .ok (.invokevirtual 205, 3) := by decide +kernel
theorem dX11_rightOf_78 : decode cX11_rightOf 78 = .ok (.ireturn, 1) := by decide +kernel
theorem dX11_rightOf_79 : decode cX11_rightOf 79 = .ok (.aload_n 0, 1) := by decide +kernel
theorem dX11_rightOf_80 : decode cX11_rightOf 80 = .ok (.getfield 42, 3) := by decide +kernel
theorem dX11_rightOf_83 : decode cX11_rightOf 83 = .ok (.iload_n 1, 1) := by decide +kernel
theorem dX11_rightOf_84 : decode cX11_rightOf 84 = .ok (.iaload, 1) := by decide +kernel
theorem dX11_rightOf_85 : decode cX11_rightOf 85 = .ok (.invokestatic 202, 3) := by decide +kernel
theorem dX11_rightOf_88 : decode cX11_rightOf 88 = .ok (.ireturn, 1) := by decide +kernel
theorem dX11_rightOf_89 : decode cX11_rightOf 89 = .ok (.aload_n 0, 1) := by decide +kernel
theorem dX11_rightOf_90 : decode cX11_rightOf 90 = .ok (.iload_n 1, 1) := by decide +kernel
theorem dX11_rightOf_91 : decode cX11_rightOf 91 = .ok (.invokevirtual 196, 3) := by decide +kernel
theorem dX11_rightOf_94 : decode cX11_rightOf 94 = .ok (.ifCond .eq 12, 3) := by decide +kernel
theorem dX11_rightOf_97 : decode cX11_rightOf 97 = .ok (.aload_n 0, 1) := by decide +kernel
theorem dX11_rightOf_98 : decode cX11_rightOf 98 = .ok (.getfield 54, 3) := by decide +kernel
theorem dX11_rightOf_101 : decode cX11_rightOf 101 = .ok (.iload_n 1, 1) := by decide +kernel
theorem dX11_rightOf_102 : decode cX11_rightOf 102 = .ok (.iaload, 1) := by decide +kernel
theorem dX11_rightOf_103 : decode cX11_rightOf 103 = .ok (.goto 4, 3) := by decide +kernel
theorem dX11_rightOf_106 : decode cX11_rightOf 106 = .ok (.iconst (-1), 1) := by decide +kernel
theorem dX11_rightOf_107 : decode cX11_rightOf 107 = .ok (.ireturn, 1) := by decide +kernel
theorem dX11_rightOf_108 : decode cX11_rightOf 108 = .ok (.bipush (-5), 2) := by decide +kernel
theorem dX11_rightOf_110 : decode cX11_rightOf 110 = .ok (.ireturn, 1) := by decide +kernel
theorem dX11_partsOf_0 : decode cX11_partsOf 0 = .ok (.iconst 0, 1) := by decide +kernel
theorem dX11_partsOf_1 : decode cX11_partsOf 1 = .ok (.istore_n 3, 1) := by decide +kernel
theorem dX11_partsOf_2 : decode cX11_partsOf 2 = .ok (.iconst 0, 1) := by decide +kernel
theorem dX11_partsOf_3 : decode cX11_partsOf 3 = .ok (.istore 4, 2) := by decide +kernel
theorem dX11_partsOf_5 : decode cX11_partsOf 5 = .ok (.iload 4, 2) := by decide +kernel
theorem dX11_partsOf_7 : decode cX11_partsOf 7 = .ok (.aload_n 0, 1) := by decide +kernel
theorem dX11_partsOf_8 : decode cX11_partsOf 8 = .ok (.getfield 167, 3) := by decide +kernel
theorem dX11_partsOf_11 : decode cX11_partsOf 11 = .ok (.if_icmp .ge 52, 3) := by decide +kernel
theorem dX11_partsOf_14 : decode cX11_partsOf 14 = .ok (.iload_n 3, 1) := by decide +kernel
theorem dX11_partsOf_15 : decode cX11_partsOf 15 = .ok (.aload_n 0, 1) := by decide +kernel
theorem dX11_partsOf_16 : decode cX11_partsOf 16 = .ok (.getfield 42, 3) := by decide +kernel
theorem dX11_partsOf_19 : decode cX11_partsOf 19 = .ok (.iload 4, 2) := by decide +kernel
theorem dX11_partsOf_21 : decode cX11_partsOf 21 = .ok (.iaload, 1) := by decide +kernel
theorem dX11_partsOf_22 : decode cX11_partsOf 22 = .ok (.invokestatic 202, 3) := by decide +kernel
theorem dX11_partsOf_25 : decode cX11_partsOf 25 = .ok (.iload_n 2, 1) := by decide +kernel
theorem dX11_partsOf_26 : decode cX11_partsOf 26 = .ok (.if_icmp .ne 28, 3) := by decide +kernel
theorem dX11_partsOf_29 : decode cX11_partsOf 29 = .ok (.iload_n 1, 1) := by decide +kernel
theorem dX11_partsOf_30 : decode cX11_partsOf 30 = .ok (.iconst (-1), 1) := by decide +kernel
theorem dX11_partsOf_31 : decode cX11_partsOf 31 = .ok (.if_icmp .eq 13, 3) := by decide +kernel
theorem dX11_partsOf_34 : decode cX11_partsOf 34 = .ok (.aload_n 0, 1) := by decide +kernel
theorem dX11_partsOf_35 : decode cX11_partsOf 35 = .ok (.iload 4, 2) := by decide +kernel
theorem dX11_partsOf_37 : decode cX11_partsOf 37 = .ok (.invokevirtual 205, 3) := by decide +kernel
theorem dX11_partsOf_40 : decode cX11_partsOf 40 = .ok (.iload_n 1, 1) := by decide +kernel
theorem dX11_partsOf_41 : decode cX11_partsOf 41 = .ok (.if_icmp .ne 13, 3) := by decide +kernel
theorem dX11_partsOf_44 : decode cX11_partsOf 44 = .ok (.aload_n 0, 1) := by decide +kernel
theorem dX11_partsOf_45 : decode cX11_partsOf 45 = .ok (.getfield 48, 3) := by decide +kernel
theorem dX11_partsOf_48 : decode cX11_partsOf 48 = .ok (.iload 4, 2) := by decide +kernel
theorem dX11_partsOf_50 : decode cX11_partsOf 50 = .ok (.iaload, 1) := by decide +kernel
theorem dX11_partsOf_51 : decode cX11_partsOf 51 = .ok (.goto 4, 3) := by decide +kernel
theorem dX11_partsOf_54 : decode cX11_partsOf 54 = .ok (.iconst 0, 1) := by decide +kernel
theorem dX11_partsOf_55 : decode cX11_partsOf 55 = .ok (.iadd, 1) := by decide +kernel
theorem dX11_partsOf_56 : decode cX11_partsOf 56 = .ok (.istore_n 3, 1) := by decide +kernel
theorem dX11_partsOf_57 : decode cX11_partsOf 57 = .ok (.iinc 4 1, 3) := by decide +kernel
theorem dX11_partsOf_60 : decode cX11_partsOf 60 = .ok (.goto (-55), 3) := by decide +kernel
theorem dX11_partsOf_63 : decode cX11_partsOf 63 = .ok (.iload_n 3, 1) := by decide +kernel
theorem dX11_partsOf_64 : decode cX11_partsOf 64 = .ok (.ireturn, 1) := by decide +kernel
theorem dX11_parts_0 : decode cX11_parts 0 = .ok (.iload_n 1, 1) := by decide +kernel
theorem dX11_parts_1 : decode cX11_parts 1 = .ok (.iconst (-1), 1) := by decide +kernel
theorem dX11_parts_2 : decode cX11_parts 2 = .ok (.if_icmp .eq 11, 3) := by decide +kernel
theorem dX11_parts_5 : decode cX11_parts 5 = .ok (.aload_n 0, 1) := by decide +kernel
theorem dX11_parts_6 : decode cX11_parts 6 = .ok (.iload_n 1, 1) := by decide +kernel
theorem dX11_parts_7 : decode cX11_parts 7 = .ok (.invokevirtual 181, 3) := by decide +kernel
theorem dX11_parts_10 : decode cX11_parts 10 = .ok (.ifCond .eq 21, 3) := by decide +kernel
theorem dX11_parts_13 : decode cX11_parts 13 = .ok (.iload_n 2, 1) := by decide +kernel
theorem dX11_parts_14 : decode cX11_parts 14 = .ok (.iconst 0, 1) := by decide +kernel
theorem dX11_parts_15 : decode cX11_parts 15 = .ok (.iconst 2, 1) := by decide +kernel
theorem dX11_parts_16 : decode cX11_parts 16 = .ok (.invokestatic 163, 3) := by decide +kernel
theorem dX11_parts_19 : decode cX11_parts 19 = .ok (.ifCond .eq 12, 3) := by decide +kernel
theorem dX11_parts_22 : decode cX11_parts 22 = .ok (.aload_n 0, 1) := by decide +kernel
theorem dX11_parts_23 : decode cX11_parts 23 = .ok (.iload_n 1, 1) := by decide +kernel
theorem dX11_parts_24 : decode cX11_parts 24 = .ok (.iload_n 2, 1) := by decide +kernel
theorem dX11_parts_25 : decode cX11_parts 25 = .ok (.invokevirtual 208, 3) := by decide +kernel
theorem dX11_parts_28 : decode cX11_parts 28 = .ok (.goto 4, 3) := by decide +kernel
theorem dX11_parts_31 : decode cX11_parts 31 = .ok (.iconst (-1), 1) := by decide +kernel
theorem dX11_parts_32 : decode cX11_parts 32 = .ok (.ireturn, 1) := by decide +kernel
theorem dX11_feed_0 : decode cX11_feed 0 = .ok (.iload_n 2, 1) := by decide +kernel
theorem dX11_feed_1 : decode cX11_feed 1 = .ok (.iconst 0, 1) := by decide +kernel
theorem dX11_feed_2 : decode cX11_feed 2 = .ok (.iconst 4, 1) := by decide +kernel
theorem dX11_feed_3 : decode cX11_feed 3 = .ok (.invokestatic 163, 3) := by decide +kernel
theorem dX11_feed_6 : decode cX11_feed 6 = .ok (.ifCond .ne 6, 3) := by decide +kernel
theorem dX11_feed_9 : decode cX11_feed 9 = .ok (.bipush (-2), 2) := by decide +kernel
theorem dX11_feed_11 : decode cX11_feed 11 = .ok (.ireturn, 1) := by decide +kernel
theorem dX11_feed_12 : decode cX11_feed 12 = .ok (.aload_n 0, 1) := by decide +kernel
theorem dX11_feed_13 : decode cX11_feed 13 = .ok (.getfield 212, 3) := by decide +kernel
theorem dX11_feed_16 : decode cX11_feed 16 = .ok (.iload_n 2, 1) := by decide +kernel
theorem dX11_feed_17 : decode cX11_feed 17 = .ok (.iadd, 1) := by decide +kernel
theorem dX11_feed_18 : decode cX11_feed 18 = .ok (.bipush 100, 2) := by decide +kernel
theorem dX11_feed_20 : decode cX11_feed 20 = .ok (.if_icmp .le 6, 3) := by decide +kernel
theorem dX11_feed_23 : decode cX11_feed 23 = .ok (.bipush (-4), 2) := by decide +kernel
theorem dX11_feed_25 : decode cX11_feed 25 = .ok (.ireturn, 1) := by decide +kernel
theorem dX11_feed_26 : decode cX11_feed 26 = .ok (.iload_n 2, 1) := by decide +kernel
theorem dX11_feed_27 : decode cX11_feed 27 = .ok (.iconst 1, 1) := by decide +kernel
theorem dX11_feed_28 : decode cX11_feed 28 = .ok (.isub, 1) := by decide +kernel
theorem dX11_feed_29 : decode cX11_feed 29 = .ok (.istore_n 3, 1) := by decide +kernel
theorem dX11_feed_30 : decode cX11_feed 30 = .ok (.iload_n 3, 1) := by decide +kernel
theorem dX11_feed_31 : decode cX11_feed 31 = .ok (.ifCond .lt 35, 3) := by decide +kernel
theorem dX11_feed_34 : decode cX11_feed 34 = .ok (.aload_n 0, 1) := by decide +kernel
theorem dX11_feed_35 : decode cX11_feed 35 = .ok (.getfield 57, 3) := by decide +kernel
theorem dX11_feed_38 : decode cX11_feed 38 = .ok (.aload_n 0, 1) := by decide +kernel
theorem dX11_feed_39 : decode cX11_feed 39 = .ok (.dup, 1) := by decide +kernel
theorem dX11_feed_40 : decode cX11_feed 40 = .ok (.getfield 212, 3) := by decide +kernel
theorem dX11_feed_43 : decode cX11_feed 43 = .ok (.dup_x1, 1) := by decide +kernel
theorem dX11_feed_44 : decode cX11_feed 44 = .ok (.iconst 1, 1) := by decide +kernel
theorem dX11_feed_45 : decode cX11_feed 45 = .ok (.iadd, 1) := by decide +kernel
theorem dX11_feed_46 : decode cX11_feed 46 = .ok (.putfield 212, 3) := by decide +kernel
theorem dX11_feed_49 : decode cX11_feed 49 = .ok (.iload_n 1, 1) := by decide +kernel
theorem dX11_feed_50 : decode cX11_feed 50 = .ok (.bipush 8, 2) := by decide +kernel
theorem dX11_feed_52 : decode cX11_feed 52 = .ok (.iload_n 3, 1) := by decide +kernel
theorem dX11_feed_53 : decode cX11_feed 53 = .ok (.imul, 1) := by decide +kernel
theorem dX11_feed_54 : decode cX11_feed 54 = .ok (.ishr, 1) := by decide +kernel
theorem dX11_feed_55 : decode cX11_feed 55 = .ok (.sipush 255, 3) := by decide +kernel
theorem dX11_feed_58 : decode cX11_feed 58 = .ok (.iand, 1) := by decide +kernel
theorem dX11_feed_59 : decode cX11_feed 59 = .ok (.iastore, 1) := by decide +kernel
theorem dX11_feed_60 : decode cX11_feed 60 = .ok (.iinc 3 (-1), 3) := by decide +kernel
theorem dX11_feed_63 : decode cX11_feed 63 = .ok (.goto (-33), 3) := by decide +kernel
theorem dX11_feed_66 : decode cX11_feed 66 = .ok (.aload_n 0, 1) := by decide +kernel
theorem dX11_feed_67 : decode cX11_feed 67 = .ok (.getfield 212, 3) := by decide +kernel
theorem dX11_feed_70 : decode cX11_feed 70 = .ok (.ireturn, 1) := by decide +kernel
theorem dX11_here_0 : decode cX11_here 0 = .ok (.aload_n 0, 1) := by decide +kernel
theorem dX11_here_1 : decode cX11_here 1 = .ok (.getfield 215, 3) := by decide +kernel
theorem dX11_here_4 : decode cX11_here 4 = .ok (.aload_n 0, 1) := by decide +kernel
theorem dX11_here_5 : decode cX11_here 5 = .ok (.getfield 212, 3) := by decide +kernel
theorem dX11_here_8 : decode cX11_here 8 = .ok (.if_icmp .ge 15, 3) := by decide +kernel
theorem dX11_here_11 : decode cX11_here 11 = .ok (.aload_n 0, 1) := by decide +kernel
theorem dX11_here_12 : decode cX11_here 12 = .ok (.getfield 57, 3) := by decide +kernel
theorem dX11_here_15 : decode cX11_here 15 = .ok (.aload_n 0, 1) := by decide +kernel
theorem dX11_here_16 : decode cX11_here 16 = .ok (.getfield 215, 3) := by decide +kernel
theorem dX11_here_19 : decode cX11_here 19 = .ok (.iaload, 1) := by decide +kernel
theorem dX11_here_20 : decode cX11_here 20 = .ok (.goto 4, 3) := by decide +kernel
theorem dX11_here_23 : decode cX11_here 23 = .ok (.iconst (-1), 1) := by decide +kernel
theorem dX11_here_24 : decode cX11_here 24 = .ok (.ireturn, 1) := by decide +kernel
theorem dX11_wrong_0 : decode cX11_wrong 0 = .ok (.aload_n 0, 1) := by decide +kernel
theorem dX11_wrong_1 : decode cX11_wrong 1 = .ok (.aload_n 0, 1) := by decide +kernel
theorem dX11_wrong_2 : decode cX11_wrong 2 = .ok (.getfield 215, 3) := by decide +kernel
theorem dX11_wrong_5 : decode cX11_wrong 5 = .ok (.putfield 218, 3) := by decide +kernel
theorem dX11_wrong_8 : decode cX11_wrong 8 = .ok (.iconst 0, 1) := by decide +kernel
theorem dX11_wrong_9 : decode cX11_wrong 9 = .ok (.ireturn, 1) := by decide +kernel
theorem dX11_text_0 : decode cX11_text 0 = .ok (.iconst 0, 1) := by decide +kernel
theorem dX11_text_1 : decode cX11_text 1 = .ok (.istore_n 2, 1) := by decide +kernel
theorem dX11_text_2 : decode cX11_text 2 = .ok (.iload_n 2, 1) := by decide +kernel
theorem dX11_text_3 : decode cX11_text 3 = .ok (.aload_n 1, 1) := by decide +kernel
theorem dX11_text_4 : decode cX11_text 4 = .ok (.invokevirtual 221, 3) := by decide +kernel
theorem dX11_text_7 : decode cX11_text 7 = .ok (.if_icmp .ge 36, 3) := by decide +kernel
theorem dX11_text_10 : decode cX11_text 10 = .ok (.aload_n 0, 1) := by decide +kernel
theorem dX11_text_11 : decode cX11_text 11 = .ok (.invokevirtual 227, 3) := by decide +kernel
theorem dX11_text_14 : decode cX11_text 14 = .ok (.aload_n 1, 1) := by decide +kernel
theorem dX11_text_15 : decode cX11_text 15 = .ok (.iload_n 2, 1) := by decide +kernel
theorem dX11_text_16 : decode cX11_text 16 = .ok (.invokevirtual 230, 3) := by decide +kernel
theorem dX11_text_19 : decode cX11_text 19 = .ok (.if_icmp .eq 8, 3) := by decide +kernel
theorem dX11_text_22 : decode cX11_text 22 = .ok (.aload_n 0, 1) := by decide +kernel
theorem dX11_text_23 : decode cX11_text 23 = .ok (.invokevirtual 234, 3) := by decide +kernel
theorem dX11_text_26 : decode cX11_text 26 = .ok (.ireturn, 1) := by decide +kernel
theorem dX11_text_27 : decode cX11_text 27 = .ok (.aload_n 0, 1) := by decide +kernel
theorem dX11_text_28 : decode cX11_text 28 = .ok (.dup, 1) := by decide +kernel
theorem dX11_text_29 : decode cX11_text 29 = .ok (.getfield 215, 3) := by decide +kernel
theorem dX11_text_32 : decode cX11_text 32 = .ok (.iconst 1, 1) := by decide +kernel
theorem dX11_text_33 : decode cX11_text 33 = .ok (.iadd, 1) := by decide +kernel
theorem dX11_text_34 : decode cX11_text 34 = .ok (.putfield 215, 3) := by decide +kernel
theorem dX11_text_37 : decode cX11_text 37 = .ok (.iinc 2 1, 3) := by decide +kernel
theorem dX11_text_40 : decode cX11_text 40 = .ok (.goto (-38), 3) := by decide +kernel
theorem dX11_text_43 : decode cX11_text 43 = .ok (.iconst 1, 1) := by decide +kernel
theorem dX11_text_44 : decode cX11_text 44 = .ok (.ireturn, 1) := by decide +kernel
theorem dX11_numberHere_0 : decode cX11_numberHere 0 = .ok (.aload_n 0, 1) := by decide +kernel
theorem dX11_numberHere_1 : decode cX11_numberHere 1 = .ok (.invokevirtual 227, 3) := by decide +kernel
theorem dX11_numberHere_4 : decode cX11_numberHere 4 = .ok (.bipush 48, 2) := by decide +kernel
theorem dX11_numberHere_6 : decode cX11_numberHere 6 = .ok (.if_icmp .lt 12, 3) := by decide +kernel
theorem dX11_numberHere_9 : decode cX11_numberHere 9 = .ok (.aload_n 0, 1) := by decide +kernel
theorem dX11_numberHere_10 : decode cX11_numberHere 10 = .ok (.invokevirtual 227, 3) := by decide +kernel
theorem dX11_numberHere_13 : decode cX11_numberHere 13 = .ok (.bipush 57, 2) := by decide +kernel
theorem dX11_numberHere_15 : decode cX11_numberHere 15 = .ok (.if_icmp .le 8, 3) := by decide +kernel
theorem dX11_numberHere_18 : decode cX11_numberHere 18 = .ok (.aload_n 0, 1) := by decide +kernel
theorem dX11_numberHere_19 : decode cX11_numberHere 19 = .ok (.invokevirtual 234, 3) := by decide +kernel
theorem dX11_numberHere_22 : decode cX11_numberHere 22 = .ok (.ireturn, 1) := by decide +kernel
theorem dX11_numberHere_23 : decode cX11_numberHere 23 = .ok (.aload_n 0, 1) := by decide +kernel
theorem dX11_numberHere_24 : decode cX11_numberHere 24 = .ok (.iconst 0, 1) := by decide +kernel
theorem dX11_numberHere_25 : decode cX11_numberHere 25 = .ok (.putfield 238, 3) := by decide +kernel
theorem dX11_numberHere_28 : decode cX11_numberHere 28 = .ok (.iconst 0, 1) := by decide +kernel
theorem dX11_numberHere_29 : decode cX11_numberHere 29 = .ok (.istore_n 1, 1) := by decide +kernel
theorem dX11_numberHere_30 : decode cX11_numberHere 30 = .ok (.iload_n 1, 1) := by decide +kernel
theorem dX11_numberHere_31 : decode cX11_numberHere 31 = .ok (.iconst 5, 1) := by decide +kernel
theorem dX11_numberHere_32 : decode cX11_numberHere 32 = .ok (.if_icmp .ge 56, 3) := by decide +kernel
theorem dX11_numberHere_35 : decode cX11_numberHere 35 = .ok (.aload_n 0, 1) := by decide +kernel
theorem dX11_numberHere_36 : decode cX11_numberHere 36 = .ok (.invokevirtual 227, 3) := by decide +kernel
theorem dX11_numberHere_39 : decode cX11_numberHere 39 = .ok (.bipush 48, 2) := by decide +kernel
theorem dX11_numberHere_41 : decode cX11_numberHere 41 = .ok (.if_icmp .lt 47, 3) := by decide +kernel
theorem dX11_numberHere_44 : decode cX11_numberHere 44 = .ok (.aload_n 0, 1) := by decide +kernel
theorem dX11_numberHere_45 : decode cX11_numberHere 45 = .ok (.invokevirtual 227, 3) := by decide +kernel
theorem dX11_numberHere_48 : decode cX11_numberHere 48 = .ok (.bipush 57, 2) := by decide +kernel
theorem dX11_numberHere_50 : decode cX11_numberHere 50 = .ok (.if_icmp .gt 38, 3) := by decide +kernel
theorem dX11_numberHere_53 : decode cX11_numberHere 53 = .ok (.aload_n 0, 1) := by decide +kernel
theorem dX11_numberHere_54 : decode cX11_numberHere 54 = .ok (.bipush 10, 2) := by decide +kernel
theorem dX11_numberHere_56 : decode cX11_numberHere 56 = .ok (.aload_n 0, 1) := by decide +kernel
theorem dX11_numberHere_57 : decode cX11_numberHere 57 = .ok (.getfield 238, 3) := by decide +kernel
theorem dX11_numberHere_60 : decode cX11_numberHere 60 = .ok (.imul, 1) := by decide +kernel
theorem dX11_numberHere_61 : decode cX11_numberHere 61 = .ok (.aload_n 0, 1) := by decide +kernel
theorem dX11_numberHere_62 : decode cX11_numberHere 62 = .ok (.invokevirtual 227, 3) := by decide +kernel
theorem dX11_numberHere_65 : decode cX11_numberHere 65 = .ok (.iadd, 1) := by decide +kernel
theorem dX11_numberHere_66 : decode cX11_numberHere 66 = .ok (.bipush 48, 2) := by decide +kernel
theorem dX11_numberHere_68 : decode cX11_numberHere 68 = .ok (.isub, 1) := by decide +kernel
theorem dX11_numberHere_69 : decode cX11_numberHere 69 = .ok (.putfield 238, 3) := by decide +kernel
theorem dX11_numberHere_72 : decode cX11_numberHere 72 = .ok (.aload_n 0, 1) := by decide +kernel
theorem dX11_numberHere_73 : decode cX11_numberHere 73 = .ok (.dup, 1) := by decide +kernel
theorem dX11_numberHere_74 : decode cX11_numberHere 74 = .ok (.getfield 215, 3) := by decide +kernel
theorem dX11_numberHere_77 : decode cX11_numberHere 77 = .ok (.iconst 1, 1) := by decide +kernel
theorem dX11_numberHere_78 : decode cX11_numberHere 78 = .ok (.iadd, 1) := by decide +kernel
theorem dX11_numberHere_79 : decode cX11_numberHere 79 = .ok (.putfield 215, 3) := by decide +kernel
theorem dX11_numberHere_82 : decode cX11_numberHere 82 = .ok (.iinc 1 1, 3) := by decide +kernel
theorem dX11_numberHere_85 : decode cX11_numberHere 85 = .ok (.goto (-55), 3) := by decide +kernel
theorem dX11_numberHere_88 : decode cX11_numberHere 88 = .ok (.iconst 1, 1) := by decide +kernel
theorem dX11_numberHere_89 : decode cX11_numberHere 89 = .ok (.ireturn, 1) := by decide +kernel
theorem dX11_is_0 : decode cX11_is 0 = .ok (.aload_n 0, 1) := by decide +kernel
theorem dX11_is_1 : decode cX11_is 1 = .ok (.iload_n 1, 1) := by decide +kernel
theorem dX11_is_2 : decode cX11_is 2 = .ok (.putfield 238, 3) := by decide +kernel
theorem dX11_is_5 : decode cX11_is 5 = .ok (.aload_n 0, 1) := by decide +kernel
theorem dX11_is_6 : decode cX11_is 6 = .ok (.aload_n 2, 1) := by decide +kernel
theorem dX11_is_7 : decode cX11_is 7 = .ok (.invokevirtual 241, 3) := by decide +kernel
theorem dX11_is_10 : decode cX11_is 10 = .ok (.ireturn, 1) := by decide +kernel
theorem dX11_keyHere_0 : decode cX11_keyHere 0 = .ok (.aload_n 0, 1) := by decide +kernel
theorem dX11_keyHere_1 : decode cX11_keyHere 1 = .ok (.invokevirtual 227, 3) := by decide +kernel
theorem dX11_keyHere_4 : decode cX11_keyHere 4 = .ok (.tableswitch 168 102 116 #[84, 168, 149, 168, 168, 168, 158, 168, 168, 168, 168, 168, 76, 168, 140], 76) := by decide +kernel
theorem dX11_keyHere_80 : decode cX11_keyHere 80 = .ok (.aload_n 0, 1) := by decide +kernel
theorem dX11_keyHere_81 : decode cX11_keyHere 81 = .ok (.iconst 0, 1) := by decide +kernel
theorem dX11_keyHere_82 : decode cX11_keyHere 82 = .ok (.ldc 245, 2) := by decide +kernel
theorem dX11_keyHere_84 : decode cX11_keyHere 84 = .ok (.invokevirtual 247, 3) := by decide +kernel
theorem dX11_keyHere_87 : decode cX11_keyHere 87 = .ok (.ireturn, 1) := by decide +kernel
theorem dX11_keyHere_88 : decode cX11_keyHere 88 = .ok (.aload_n 0, 1) := by decide +kernel
theorem dX11_keyHere_89 : decode cX11_keyHere 89 = .ok (.dup, 1) := by decide +kernel
theorem dX11_keyHere_90 : decode cX11_keyHere 90 = .ok (.getfield 215, 3) := by decide +kernel
theorem dX11_keyHere_93 : decode cX11_keyHere 93 = .ok (.iconst 1, 1) := by decide +kernel
theorem dX11_keyHere_94 : decode cX11_keyHere 94 = .ok (.iadd, 1) := by decide +kernel
theorem dX11_keyHere_95 : decode cX11_keyHere 95 = .ok (.putfield 215, 3) := by decide +kernel
theorem dX11_keyHere_98 : decode cX11_keyHere 98 = .ok (.aload_n 0, 1) := by decide +kernel
theorem dX11_keyHere_99 : decode cX11_keyHere 99 = .ok (.invokevirtual 227, 3) := by decide +kernel
theorem dX11_keyHere_102 : decode cX11_keyHere 102 = .ok (.bipush 101, 2) := by decide +kernel
theorem dX11_keyHere_104 : decode cX11_keyHere 104 = .ok (.if_icmp .ne 13, 3) := by decide +kernel
theorem dX11_keyHere_107 : decode cX11_keyHere 107 = .ok (.aload_n 0, 1) := by decide +kernel
theorem dX11_keyHere_108 : decode cX11_keyHere 108 = .ok (.iconst 1, 1) := by decide +kernel
theorem dX11_keyHere_109 : decode cX11_keyHere 109 = .ok (.ldc 251, 2) := by decide +kernel
theorem dX11_keyHere_111 : decode cX11_keyHere 111 = .ok (.invokevirtual 247, 3) := by decide +kernel
theorem dX11_keyHere_114 : decode cX11_keyHere 114 = .ok (.goto 29, 3) := by decide +kernel
theorem dX11_keyHere_117 : decode cX11_keyHere 117 = .ok (.aload_n 0, 1) := by decide +kernel
theorem dX11_keyHere_118 : decode cX11_keyHere 118 = .ok (.invokevirtual 227, 3) := by decide +kernel
theorem dX11_keyHere_121 : decode cX11_keyHere 121 = .ok (.bipush 114, 2) := by decide +kernel
theorem dX11_keyHere_123 : decode cX11_keyHere 123 = .ok (.if_icmp .ne 13, 3) := by decide +kernel
theorem dX11_keyHere_126 : decode cX11_keyHere 126 = .ok (.aload_n 0, 1) := by decide +kernel
theorem dX11_keyHere_127 : decode cX11_keyHere 127 = .ok (.iconst 2, 1) := by decide +kernel
theorem dX11_keyHere_128 : decode cX11_keyHere 128 = .ok (.ldc 253, 2) := by decide +kernel
theorem dX11_keyHere_130 : decode cX11_keyHere 130 = .ok (.invokevirtual 247, 3) := by decide +kernel
theorem dX11_keyHere_133 : decode cX11_keyHere 133 = .ok (.goto 10, 3) := by decide +kernel
theorem dX11_keyHere_136 : decode cX11_keyHere 136 = .ok (.aload_n 0, 1) := by decide +kernel
theorem dX11_keyHere_137 : decode cX11_keyHere 137 = .ok (.iconst 5, 1) := by decide +kernel
theorem dX11_keyHere_138 : decode cX11_keyHere 138 = .ok (.ldc 255, 2) := by decide +kernel
theorem dX11_keyHere_140 : decode cX11_keyHere 140 = .ok (.invokevirtual 247, 3) := by decide +kernel
theorem dX11_keyHere_143 : decode cX11_keyHere 143 = .ok (.ireturn, 1) := by decide +kernel
theorem dX11_keyHere_144 : decode cX11_keyHere 144 = .ok (.aload_n 0, 1) := by decide +kernel
theorem dX11_keyHere_145 : decode cX11_keyHere 145 = .ok (.iconst 3, 1) := by decide +kernel
theorem dX11_keyHere_146 : decode cX11_keyHere 146 = .ok (.ldc_w 257, 3) := by decide +kernel
theorem dX11_keyHere_149 : decode cX11_keyHere 149 = .ok (.invokevirtual 247, 3) := by decide +kernel
theorem dX11_keyHere_152 : decode cX11_keyHere 152 = .ok (.ireturn, 1) := by decide +kernel
theorem dX11_keyHere_153 : decode cX11_keyHere 153 = .ok (.aload_n 0, 1) := by decide +kernel
theorem dX11_keyHere_154 : decode cX11_keyHere 154 = .ok (.iconst 4, 1) := by decide +kernel
theorem dX11_keyHere_155 : decode cX11_keyHere 155 = .ok (.ldc_w 259, 3) := by decide +kernel
theorem dX11_keyHere_158 : decode cX11_keyHere 158 = .ok (.invokevirtual 247, 3) := by decide +kernel
theorem dX11_keyHere_161 : decode cX11_keyHere 161 = .ok (.ireturn, 1) := by decide +kernel
theorem dX11_keyHere_162 : decode cX11_keyHere 162 = .ok (.aload_n 0, 1) := by decide +kernel
theorem dX11_keyHere_163 : decode cX11_keyHere 163 = .ok (.bipush 6, 2) := by decide +kernel
theorem dX11_keyHere_165 : decode cX11_keyHere 165 = .ok (.ldc_w 261, 3) := by decide +kernel
theorem dX11_keyHere_168 : decode cX11_keyHere 168 = .ok (.invokevirtual 247, 3) := by decide +kernel
theorem dX11_keyHere_171 : decode cX11_keyHere 171 = .ok (.ireturn, 1) := by decide +kernel
theorem dX11_keyHere_172 : decode cX11_keyHere 172 = .ok (.aload_n 0, 1) := by decide +kernel
theorem dX11_keyHere_173 : decode cX11_keyHere 173 = .ok (.bipush 7, 2) := by decide +kernel
theorem dX11_keyHere_175 : decode cX11_keyHere 175 = .ok (.ldc_w 263, 3) := by decide +kernel
theorem dX11_keyHere_178 : decode cX11_keyHere 178 = .ok (.invokevirtual 247, 3) := by decide +kernel
theorem dX11_keyHere_181 : decode cX11_keyHere 181 = .ok (.ireturn, 1) := by decide +kernel
theorem dX11_fieldHere_0 : decode cX11_fieldHere 0 = .ok (.aload_n 0, 1) := by decide +kernel
theorem dX11_fieldHere_1 : decode cX11_fieldHere 1 = .ok (.invokevirtual 227, 3) := by decide +kernel
theorem dX11_fieldHere_4 : decode cX11_fieldHere 4 = .ok (.lookupswitch 63 #[(99, 36), (115, 54), (121, 45)], 36) := by decide +kernel
theorem dX11_fieldHere_40 : decode cX11_fieldHere 40 = .ok (.aload_n 0, 1) := by decide +kernel
theorem dX11_fieldHere_41 : decode cX11_fieldHere 41 = .ok (.iconst 0, 1) := by decide +kernel
theorem dX11_fieldHere_42 : decode cX11_fieldHere 42 = .ok (.ldc_w 265, 3) := by decide +kernel
theorem dX11_fieldHere_45 : decode cX11_fieldHere 45 = .ok (.invokevirtual 247, 3) := by decide +kernel
theorem dX11_fieldHere_48 : decode cX11_fieldHere 48 = .ok (.ireturn, 1) := by decide +kernel
theorem dX11_fieldHere_49 : decode cX11_fieldHere 49 = .ok (.aload_n 0, 1) := by decide +kernel
theorem dX11_fieldHere_50 : decode cX11_fieldHere 50 = .ok (.iconst 4, 1) := by decide +kernel
theorem dX11_fieldHere_51 : decode cX11_fieldHere 51 = .ok (.ldc_w 267, 3) := by decide +kernel
theorem dX11_fieldHere_54 : decode cX11_fieldHere 54 = .ok (.invokevirtual 247, 3) := by decide +kernel
theorem dX11_fieldHere_57 : decode cX11_fieldHere 57 = .ok (.ireturn, 1) := by decide +kernel
theorem dX11_fieldHere_58 : decode cX11_fieldHere 58 = .ok (.aload_n 0, 1) := by decide +kernel
theorem dX11_fieldHere_59 : decode cX11_fieldHere 59 = .ok (.iconst 5, 1) := by decide +kernel
theorem dX11_fieldHere_60 : decode cX11_fieldHere 60 = .ok (.ldc_w 269, 3) := by decide +kernel
theorem dX11_fieldHere_63 : decode cX11_fieldHere 63 = .ok (.invokevirtual 247, 3) := by decide +kernel
theorem dX11_fieldHere_66 : decode cX11_fieldHere 66 = .ok (.ireturn, 1) := by decide +kernel
theorem dX11_fieldHere_67 : decode cX11_fieldHere 67 = .ok (.aload_n 0, 1) := by decide +kernel
theorem dX11_fieldHere_68 : decode cX11_fieldHere 68 = .ok (.ldc_w 271, 3) := by decide +kernel
theorem dX11_fieldHere_71 : decode cX11_fieldHere 71 = .ok (.invokevirtual 241, 3) := by decide +kernel
theorem dX11_fieldHere_74 : decode cX11_fieldHere 74 = .ok (.ifCond .ne 5, 3) := by decide +kernel
theorem dX11_fieldHere_77 : decode cX11_fieldHere 77 = .ok (.iconst 0, 1) := by decide +kernel
theorem dX11_fieldHere_78 : decode cX11_fieldHere 78 = .ok (.ireturn, 1) := by decide +kernel
theorem dX11_fieldHere_79 : decode cX11_fieldHere 79 = .ok (.aload_n 0, 1) := by decide +kernel
theorem dX11_fieldHere_80 : decode cX11_fieldHere 80 = .ok (.invokevirtual 227, 3) := by decide +kernel
theorem dX11_fieldHere_83 : decode cX11_fieldHere 83 = .ok (.bipush 97, 2) := by decide +kernel
theorem dX11_fieldHere_85 : decode cX11_fieldHere 85 = .ok (.if_icmp .ne 12, 3) := by decide +kernel
theorem dX11_fieldHere_88 : decode cX11_fieldHere 88 = .ok (.aload_n 0, 1) := by decide +kernel
theorem dX11_fieldHere_89 : decode cX11_fieldHere 89 = .ok (.iconst 1, 1) := by decide +kernel
theorem dX11_fieldHere_90 : decode cX11_fieldHere 90 = .ok (.ldc_w 273, 3) := by decide +kernel
theorem dX11_fieldHere_93 : decode cX11_fieldHere 93 = .ok (.invokevirtual 247, 3) := by decide +kernel
theorem dX11_fieldHere_96 : decode cX11_fieldHere 96 = .ok (.ireturn, 1) := by decide +kernel
theorem dX11_fieldHere_97 : decode cX11_fieldHere 97 = .ok (.aload_n 0, 1) := by decide +kernel
theorem dX11_fieldHere_98 : decode cX11_fieldHere 98 = .ok (.ldc_w 275, 3) := by decide +kernel
theorem dX11_fieldHere_101 : decode cX11_fieldHere 101 = .ok (.invokevirtual 241, 3) := by decide +kernel
theorem dX11_fieldHere_104 : decode cX11_fieldHere 104 = .ok (.ifCond .eq 41, 3) := by decide +kernel
theorem dX11_fieldHere_107 : decode cX11_fieldHere 107 = .ok (.aload_n 0, 1) := by decide +kernel
theorem dX11_fieldHere_108 : decode cX11_fieldHere 108 = .ok (.invokevirtual 227, 3) := by decide +kernel
theorem dX11_fieldHere_111 : decode cX11_fieldHere 111 = .ok (.bipush 100, 2) := by decide +kernel
theorem dX11_fieldHere_113 : decode cX11_fieldHere 113 = .ok (.if_icmp .ne 17, 3) := by decide +kernel
theorem dX11_fieldHere_116 : decode cX11_fieldHere 116 = .ok (.aload_n 0, 1) := by decide +kernel
theorem dX11_fieldHere_117 : decode cX11_fieldHere 117 = .ok (.iconst 2, 1) := by decide +kernel
theorem dX11_fieldHere_118 : decode cX11_fieldHere 118 = .ok (.ldc_w 277, 3) := by decide +kernel
theorem dX11_fieldHere_121 : decode cX11_fieldHere 121 = .ok (.invokevirtual 247, 3) := by decide +kernel
theorem dX11_fieldHere_124 : decode cX11_fieldHere 124 = .ok (.ifCond .eq 21, 3) := by decide +kernel
theorem dX11_fieldHere_127 : decode cX11_fieldHere 127 = .ok (.goto 14, 3) := by decide +kernel
theorem dX11_fieldHere_130 : decode cX11_fieldHere 130 = .ok (.aload_n 0, 1) := by decide +kernel
theorem dX11_fieldHere_131 : decode cX11_fieldHere 131 = .ok (.iconst 3, 1) := by decide +kernel
theorem dX11_fieldHere_132 : decode cX11_fieldHere 132 = .ok (.ldc_w 279, 3) := by decide +kernel
theorem dX11_fieldHere_135 : decode cX11_fieldHere 135 = .ok (.invokevirtual 247, 3) := by decide +kernel
theorem dX11_fieldHere_138 : decode cX11_fieldHere 138 = .ok (.ifCond .eq 7, 3) := by decide +kernel
theorem dX11_fieldHere_141 : decode cX11_fieldHere 141 = .ok (.iconst 1, 1) := by decide +kernel
theorem dX11_fieldHere_142 : decode cX11_fieldHere 142 = .ok (.goto 4, 3) := by decide +kernel
theorem dX11_fieldHere_145 : decode cX11_fieldHere 145 = .ok (.iconst 0, 1) := by decide +kernel
theorem dX11_fieldHere_146 : decode cX11_fieldHere 146 = .ok (.ireturn, 1) := by decide +kernel
theorem dX11_testHere_0 : decode cX11_testHere 0 = .ok (.aload_n 0, 1) := by decide +kernel
theorem dX11_testHere_1 : decode cX11_testHere 1 = .ok (.getfield 139, 3) := by decide +kernel
theorem dX11_testHere_4 : decode cX11_testHere 4 = .ok (.iconst 0, 1) := by decide +kernel
theorem dX11_testHere_5 : decode cX11_testHere 5 = .ok (.aload_n 0, 1) := by decide +kernel
theorem dX11_testHere_6 : decode cX11_testHere 6 = .ok (.invokevirtual 227, 3) := by decide +kernel
theorem dX11_testHere_9 : decode cX11_testHere 9 = .ok (.bipush 110, 2) := by decide +kernel
theorem dX11_testHere_11 : decode cX11_testHere 11 = .ok (.if_icmp .ne 7, 3) := by decide +kernel
theorem dX11_testHere_14 : decode cX11_testHere 14 = .ok (.iconst 1, 1) := by decide +kernel
theorem dX11_testHere_15 : decode cX11_testHere 15 = .ok (.goto 4, 3) := by decide +kernel
theorem dX11_testHere_18 : decode cX11_testHere 18 = .ok (.iconst 0, 1) := by decide +kernel
theorem dX11_testHere_19 : decode cX11_testHere 19 = .ok (.iastore, 1) := by decide +kernel
theorem dX11_testHere_20 : decode cX11_testHere 20 = .ok (.aload_n 0, 1) := by decide +kernel
theorem dX11_testHere_21 : decode cX11_testHere 21 = .ok (.getfield 139, 3) := by decide +kernel
theorem dX11_testHere_24 : decode cX11_testHere 24 = .ok (.iconst 0, 1) := by decide +kernel
theorem dX11_testHere_25 : decode cX11_testHere 25 = .ok (.iaload, 1) := by decide +kernel
theorem dX11_testHere_26 : decode cX11_testHere 26 = .ok (.iconst 1, 1) := by decide +kernel
theorem dX11_testHere_27 : decode cX11_testHere 27 = .ok (.if_icmp .ne 15, 3) := by decide +kernel
theorem dX11_testHere_30 : decode cX11_testHere 30 = .ok (.aload_n 0, 1) := by decide +kernel
theorem dX11_testHere_31 : decode cX11_testHere 31 = .ok (.ldc_w 281, 3) := by decide +kernel
theorem dX11_testHere_34 : decode cX11_testHere 34 = .ok (.invokevirtual 241, 3) := by decide +kernel
theorem dX11_testHere_37 : decode cX11_testHere 37 = .ok (.ifCond .ne 5, 3) := by decide +kernel
theorem dX11_testHere_40 : decode cX11_testHere 40 = .ok (.iconst 0, 1) := by decide +kernel
theorem dX11_testHere_41 : decode cX11_testHere 41 = .ok (.ireturn, 1) := by decide +kernel
theorem dX11_testHere_42 : decode cX11_testHere 42 = .ok (.aload_n 0, 1) := by decide +kernel
theorem dX11_testHere_43 : decode cX11_testHere 43 = .ok (.invokevirtual 283, 3) := by decide +kernel
theorem dX11_testHere_46 : decode cX11_testHere 46 = .ok (.ifCond .ne 5, 3) := by decide +kernel
theorem dX11_testHere_49 : decode cX11_testHere 49 = .ok (.iconst 0, 1) := by decide +kernel
theorem dX11_testHere_50 : decode cX11_testHere 50 = .ok (.ireturn, 1) := by decide +kernel
theorem dX11_testHere_51 : decode cX11_testHere 51 = .ok (.aload_n 0, 1) := by decide +kernel
theorem dX11_testHere_52 : decode cX11_testHere 52 = .ok (.getfield 139, 3) := by decide +kernel
theorem dX11_testHere_55 : decode cX11_testHere 55 = .ok (.iconst 1, 1) := by decide +kernel
theorem dX11_testHere_56 : decode cX11_testHere 56 = .ok (.aload_n 0, 1) := by decide +kernel
theorem dX11_testHere_57 : decode cX11_testHere 57 = .ok (.getfield 238, 3) := by decide +kernel
theorem dX11_testHere_60 : decode cX11_testHere 60 = .ok (.iastore, 1) := by decide +kernel
theorem dX11_testHere_61 : decode cX11_testHere 61 = .ok (.aload_n 0, 1) := by decide +kernel
theorem dX11_testHere_62 : decode cX11_testHere 62 = .ok (.invokevirtual 227, 3) := by decide +kernel
theorem dX11_testHere_65 : decode cX11_testHere 65 = .ok (.istore_n 1, 1) := by decide +kernel
theorem dX11_testHere_66 : decode cX11_testHere 66 = .ok (.iload_n 1, 1) := by decide +kernel
theorem dX11_testHere_67 : decode cX11_testHere 67 = .ok (.bipush 60, 2) := by decide +kernel
theorem dX11_testHere_69 : decode cX11_testHere 69 = .ok (.if_icmp .eq 20, 3) := by decide +kernel
theorem dX11_testHere_72 : decode cX11_testHere 72 = .ok (.iload_n 1, 1) := by decide +kernel
theorem dX11_testHere_73 : decode cX11_testHere 73 = .ok (.bipush 61, 2) := by decide +kernel
theorem dX11_testHere_75 : decode cX11_testHere 75 = .ok (.if_icmp .eq 14, 3) := by decide +kernel
theorem dX11_testHere_78 : decode cX11_testHere 78 = .ok (.iload_n 1, 1) := by decide +kernel
theorem dX11_testHere_79 : decode cX11_testHere 79 = .ok (.bipush 62, 2) := by decide +kernel
theorem dX11_testHere_81 : decode cX11_testHere 81 = .ok (.if_icmp .eq 8, 3) := by decide +kernel
theorem dX11_testHere_84 : decode cX11_testHere 84 = .ok (.aload_n 0, 1) := by decide +kernel
theorem dX11_testHere_85 : decode cX11_testHere 85 = .ok (.invokevirtual 234, 3) := by decide +kernel
theorem dX11_testHere_88 : decode cX11_testHere 88 = .ok (.ireturn, 1) := by decide +kernel
theorem dX11_testHere_89 : decode cX11_testHere 89 = .ok (.aload_n 0, 1) := by decide +kernel
theorem dX11_testHere_90 : decode cX11_testHere 90 = .ok (.getfield 139, 3) := by decide +kernel
theorem dX11_testHere_93 : decode cX11_testHere 93 = .ok (.iconst 3, 1) := by decide +kernel
theorem dX11_testHere_94 : decode cX11_testHere 94 = .ok (.iload_n 1, 1) := by decide +kernel
theorem dX11_testHere_95 : decode cX11_testHere 95 = .ok (.iastore, 1) := by decide +kernel
theorem dX11_testHere_96 : decode cX11_testHere 96 = .ok (.aload_n 0, 1) := by decide +kernel
theorem dX11_testHere_97 : decode cX11_testHere 97 = .ok (.dup, 1) := by decide +kernel
theorem dX11_testHere_98 : decode cX11_testHere 98 = .ok (.getfield 215, 3) := by decide +kernel
theorem dX11_testHere_101 : decode cX11_testHere 101 = .ok (.iconst 1, 1) := by decide +kernel
theorem dX11_testHere_102 : decode cX11_testHere 102 = .ok (.iadd, 1) := by decide +kernel
theorem dX11_testHere_103 : decode cX11_testHere 103 = .ok (.putfield 215, 3) := by decide +kernel
theorem dX11_testHere_106 : decode cX11_testHere 106 = .ok (.aload_n 0, 1) := by decide +kernel
theorem dX11_testHere_107 : decode cX11_testHere 107 = .ok (.invokevirtual 286, 3) := by decide +kernel
theorem dX11_testHere_110 : decode cX11_testHere 110 = .ok (.istore_n 2, 1) := by decide +kernel
theorem dX11_testHere_111 : decode cX11_testHere 111 = .ok (.aload_n 0, 1) := by decide +kernel
theorem dX11_testHere_112 : decode cX11_testHere 112 = .ok (.getfield 139, 3) := by decide +kernel
theorem dX11_testHere_115 : decode cX11_testHere 115 = .ok (.iconst 4, 1) := by decide +kernel
theorem dX11_testHere_116 : decode cX11_testHere 116 = .ok (.aload_n 0, 1) := by decide +kernel
theorem dX11_testHere_117 : decode cX11_testHere 117 = .ok (.getfield 238, 3) := by decide +kernel
theorem dX11_testHere_120 : decode cX11_testHere 120 = .ok (.iastore, 1) := by decide +kernel
theorem dX11_testHere_121 : decode cX11_testHere 121 = .ok (.iload_n 2, 1) := by decide +kernel
theorem dX11_testHere_122 : decode cX11_testHere 122 = .ok (.ireturn, 1) := by decide +kernel
theorem dX11_wordHere_0 : decode cX11_wordHere 0 = .ok (.aload_n 0, 1) := by decide +kernel
theorem dX11_wordHere_1 : decode cX11_wordHere 1 = .ok (.getfield 60, 3) := by decide +kernel
theorem dX11_wordHere_4 : decode cX11_wordHere 4 = .ok (.aload_n 0, 1) := by decide +kernel
theorem dX11_wordHere_5 : decode cX11_wordHere 5 = .ok (.getfield 289, 3) := by decide +kernel
theorem dX11_wordHere_8 : decode cX11_wordHere 8 = .ok (.aaload, 1) := by decide +kernel
theorem dX11_wordHere_9 : decode cX11_wordHere 9 = .ok (.astore_n 1, 1) := by decide +kernel
theorem dX11_wordHere_10 : decode cX11_wordHere 10 = .ok (.aload_n 0, 1) := by decide +kernel
theorem dX11_wordHere_11 : decode cX11_wordHere 11 = .ok (.iconst 0, 1) := by decide +kernel
theorem dX11_wordHere_12 : decode cX11_wordHere 12 = .ok (.putfield 215, 3) := by decide +kernel
theorem dX11_wordHere_15 : decode cX11_wordHere 15 = .ok (.aload_n 1, 1) := by decide +kernel
theorem dX11_wordHere_16 : decode cX11_wordHere 16 = .ok (.iconst 2, 1) := by decide +kernel
theorem dX11_wordHere_17 : decode cX11_wordHere 17 = .ok (.iconst 0, 1) := by decide +kernel
theorem dX11_wordHere_18 : decode cX11_wordHere 18 = .ok (.iastore, 1) := by decide +kernel
theorem dX11_wordHere_19 : decode cX11_wordHere 19 = .ok (.aload_n 1, 1) := by decide +kernel
theorem dX11_wordHere_20 : decode cX11_wordHere 20 = .ok (.iconst 3, 1) := by decide +kernel
theorem dX11_wordHere_21 : decode cX11_wordHere 21 = .ok (.iconst 0, 1) := by decide +kernel
theorem dX11_wordHere_22 : decode cX11_wordHere 22 = .ok (.iastore, 1) := by decide +kernel
theorem dX11_wordHere_23 : decode cX11_wordHere 23 = .ok (.aload_n 0, 1) := by decide +kernel
theorem dX11_wordHere_24 : decode cX11_wordHere 24 = .ok (.invokevirtual 292, 3) := by decide +kernel
theorem dX11_wordHere_27 : decode cX11_wordHere 27 = .ok (.ifCond .ne 5, 3) := by decide +kernel
theorem dX11_wordHere_30 : decode cX11_wordHere 30 = .ok (.iconst 0, 1) := by decide +kernel
theorem dX11_wordHere_31 : decode cX11_wordHere 31 = .ok (.ireturn, 1) := by decide +kernel
theorem dX11_wordHere_32 : decode cX11_wordHere 32 = .ok (.aload_n 1, 1) := by decide +kernel
theorem dX11_wordHere_33 : decode cX11_wordHere 33 = .ok (.iconst 0, 1) := by decide +kernel
theorem dX11_wordHere_34 : decode cX11_wordHere 34 = .ok (.aload_n 0, 1) := by decide +kernel
theorem dX11_wordHere_35 : decode cX11_wordHere 35 = .ok (.getfield 238, 3) := by decide +kernel
theorem dX11_wordHere_38 : decode cX11_wordHere 38 = .ok (.iastore, 1) := by decide +kernel
theorem dX11_wordHere_39 : decode cX11_wordHere 39 = .ok (.aload_n 0, 1) := by decide +kernel
theorem dX11_wordHere_40 : decode cX11_wordHere 40 = .ok (.ldc_w 295, 3) := by decide +kernel
theorem dX11_wordHere_43 : decode cX11_wordHere 43 = .ok (.invokevirtual 241, 3) := by decide +kernel
theorem dX11_wordHere_46 : decode cX11_wordHere 46 = .ok (.ifCond .eq 10, 3) := by decide +kernel
theorem dX11_wordHere_49 : decode cX11_wordHere 49 = .ok (.aload_n 0, 1) := by decide +kernel
theorem dX11_wordHere_50 : decode cX11_wordHere 50 = .ok (.invokevirtual 286, 3) := by decide +kernel
theorem dX11_wordHere_53 : decode cX11_wordHere 53 = .ok (.ifCond .ne 5, 3) := by decide +kernel
theorem dX11_wordHere_56 : decode cX11_wordHere 56 = .ok (.iconst 0, 1) := by decide +kernel
theorem dX11_wordHere_57 : decode cX11_wordHere 57 = .ok (.ireturn, 1) := by decide +kernel
theorem dX11_wordHere_58 : decode cX11_wordHere 58 = .ok (.aload_n 1, 1) := by decide +kernel
theorem dX11_wordHere_59 : decode cX11_wordHere 59 = .ok (.iconst 1, 1) := by decide +kernel
theorem dX11_wordHere_60 : decode cX11_wordHere 60 = .ok (.aload_n 0, 1) := by decide +kernel
theorem dX11_wordHere_61 : decode cX11_wordHere 61 = .ok (.getfield 238, 3) := by decide +kernel
theorem dX11_wordHere_64 : decode cX11_wordHere 64 = .ok (.iastore, 1) := by decide +kernel
theorem dX11_wordHere_65 : decode cX11_wordHere 65 = .ok (.aload_n 0, 1) := by decide +kernel
theorem dX11_wordHere_66 : decode cX11_wordHere 66 = .ok (.getfield 215, 3) := by decide +kernel
theorem dX11_wordHere_69 : decode cX11_wordHere 69 = .ok (.aload_n 0, 1) := by decide +kernel
theorem dX11_wordHere_70 : decode cX11_wordHere 70 = .ok (.getfield 212, 3) := by decide +kernel
theorem dX11_wordHere_73 : decode cX11_wordHere 73 = .ok (.if_icmp .ne 5, 3) := by decide +kernel
theorem dX11_wordHere_76 : decode cX11_wordHere 76 = .ok (.iconst 1, 1) := by decide +kernel
theorem dX11_wordHere_77 : decode cX11_wordHere 77 = .ok (.ireturn, 1) := by decide +kernel
theorem dX11_wordHere_78 : decode cX11_wordHere 78 = .ok (.aload_n 0, 1) := by decide +kernel
theorem dX11_wordHere_79 : decode cX11_wordHere 79 = .ok (.ldc_w 295, 3) := by decide +kernel
theorem dX11_wordHere_82 : decode cX11_wordHere 82 = .ok (.invokevirtual 241, 3) := by decide +kernel
theorem dX11_wordHere_85 : decode cX11_wordHere 85 = .ok (.ifCond .ne 5, 3) := by decide +kernel
theorem dX11_wordHere_88 : decode cX11_wordHere 88 = .ok (.iconst 0, 1) := by decide +kernel
theorem dX11_wordHere_89 : decode cX11_wordHere 89 = .ok (.ireturn, 1) := by decide +kernel
theorem dX11_wordHere_90 : decode cX11_wordHere 90 = .ok (.aload_n 1, 1) := by decide +kernel
theorem dX11_wordHere_91 : decode cX11_wordHere 91 = .ok (.iconst 2, 1) := by decide +kernel
theorem dX11_wordHere_92 : decode cX11_wordHere 92 = .ok (.aload_n 0, 1) := by decide +kernel
theorem dX11_wordHere_93 : decode cX11_wordHere 93 = .ok (.invokevirtual 227, 3) := by decide +kernel
theorem dX11_wordHere_96 : decode cX11_wordHere 96 = .ok (.bipush 117, 2) := by decide +kernel
theorem dX11_wordHere_98 : decode cX11_wordHere 98 = .ok (.if_icmp .ne 7, 3) := by decide +kernel
theorem dX11_wordHere_101 : decode cX11_wordHere 101 = .ok (.iconst 2, 1) := by decide +kernel
theorem dX11_wordHere_102 : decode cX11_wordHere 102 = .ok (.goto 4, 3) := by decide +kernel
theorem dX11_wordHere_105 : decode cX11_wordHere 105 = .ok (.iconst 1, 1) := by decide +kernel
theorem dX11_wordHere_106 : decode cX11_wordHere 106 = .ok (.iastore, 1) := by decide +kernel
theorem dX11_wordHere_107 : decode cX11_wordHere 107 = .ok (.aload_n 0, 1) := by decide +kernel
theorem dX11_wordHere_108 : decode cX11_wordHere 108 = .ok (.aload_n 1, 1) := by decide +kernel
theorem dX11_wordHere_109 : decode cX11_wordHere 109 = .ok (.iconst 2, 1) := by decide +kernel
theorem dX11_wordHere_110 : decode cX11_wordHere 110 = .ok (.iaload, 1) := by decide +kernel
theorem dX11_wordHere_111 : decode cX11_wordHere 111 = .ok (.iconst 2, 1) := by decide +kernel
theorem dX11_wordHere_112 : decode cX11_wordHere 112 = .ok (.if_icmp .ne 9, 3) := by decide +kernel
theorem dX11_wordHere_115 : decode cX11_wordHere 115 = .ok (.ldc_w 297, 3) := by decide +kernel
theorem dX11_wordHere_118 : decode cX11_wordHere 118 = .ok (.goto 6, 3) := by decide +kernel
theorem dX11_wordHere_121 : decode cX11_wordHere 121 = .ok (.ldc_w 299, 3) := by decide +kernel
theorem dX11_wordHere_124 : decode cX11_wordHere 124 = .ok (.invokevirtual 241, 3) := by decide +kernel
theorem dX11_wordHere_127 : decode cX11_wordHere 127 = .ok (.ifCond .ne 5, 3) := by decide +kernel
theorem dX11_wordHere_130 : decode cX11_wordHere 130 = .ok (.iconst 0, 1) := by decide +kernel
theorem dX11_wordHere_131 : decode cX11_wordHere 131 = .ok (.ireturn, 1) := by decide +kernel
theorem dX11_wordHere_132 : decode cX11_wordHere 132 = .ok (.aload_n 0, 1) := by decide +kernel
theorem dX11_wordHere_133 : decode cX11_wordHere 133 = .ok (.getfield 139, 3) := by decide +kernel
theorem dX11_wordHere_136 : decode cX11_wordHere 136 = .ok (.iconst 5, 1) := by decide +kernel
theorem dX11_wordHere_137 : decode cX11_wordHere 137 = .ok (.iconst 0, 1) := by decide +kernel
theorem dX11_wordHere_138 : decode cX11_wordHere 138 = .ok (.iastore, 1) := by decide +kernel
theorem dX11_wordHere_139 : decode cX11_wordHere 139 = .ok (.aload_n 0, 1) := by decide +kernel
theorem dX11_wordHere_140 : decode cX11_wordHere 140 = .ok (.invokevirtual 301, 3) := by decide +kernel
theorem dX11_wordHere_143 : decode cX11_wordHere 143 = .ok (.ifCond .ne 5, 3) := by decide +kernel
theorem dX11_wordHere_146 : decode cX11_wordHere 146 = .ok (.iconst 0, 1) := by decide +kernel
theorem dX11_wordHere_147 : decode cX11_wordHere 147 = .ok (.ireturn, 1) := by decide +kernel
theorem dX11_wordHere_148 : decode cX11_wordHere 148 = .ok (.aload_n 0, 1) := by decide +kernel
theorem dX11_wordHere_149 : decode cX11_wordHere 149 = .ok (.getfield 139, 3) := by decide +kernel
theorem dX11_wordHere_152 : decode cX11_wordHere 152 = .ok (.iconst 0, 1) := by decide +kernel
theorem dX11_wordHere_153 : decode cX11_wordHere 153 = .ok (.aload_n 0, 1) := by decide +kernel
theorem dX11_wordHere_154 : decode cX11_wordHere 154 = .ok (.getfield 63, 3) := by decide +kernel
theorem dX11_wordHere_157 : decode cX11_wordHere 157 = .ok (.aload_n 0, 1) := by decide +kernel
theorem dX11_wordHere_158 : decode cX11_wordHere 158 = .ok (.getfield 289, 3) := by decide +kernel
theorem dX11_wordHere_161 : decode cX11_wordHere 161 = .ok (.aaload, 1) := by decide +kernel
theorem dX11_wordHere_162 : decode cX11_wordHere 162 = .ok (.bipush 6, 2) := by decide +kernel
theorem dX11_wordHere_164 : decode cX11_wordHere 164 = .ok (.aload_n 1, 1) := by decide +kernel
theorem dX11_wordHere_165 : decode cX11_wordHere 165 = .ok (.iconst 3, 1) := by decide +kernel
theorem dX11_wordHere_166 : decode cX11_wordHere 166 = .ok (.iaload, 1) := by decide +kernel
theorem dX11_wordHere_167 : decode cX11_wordHere 167 = .ok (.imul, 1) := by decide +kernel
theorem dX11_wordHere_168 : decode cX11_wordHere 168 = .ok (.bipush 6, 2) := by decide +kernel
theorem dX11_wordHere_170 : decode cX11_wordHere 170 = .ok (.invokestatic 304, 3) := by decide +kernel
theorem dX11_wordHere_173 : decode cX11_wordHere 173 = .ok (.aload_n 1, 1) := by decide +kernel
theorem dX11_wordHere_174 : decode cX11_wordHere 174 = .ok (.iconst 3, 1) := by decide +kernel
theorem dX11_wordHere_175 : decode cX11_wordHere 175 = .ok (.dup2, 1) := by decide +kernel
theorem dX11_wordHere_176 : decode cX11_wordHere 176 = .ok (.iaload, 1) := by decide +kernel
theorem dX11_wordHere_177 : decode cX11_wordHere 177 = .ok (.iconst 1, 1) := by decide +kernel
theorem dX11_wordHere_178 : decode cX11_wordHere 178 = .ok (.iadd, 1) := by decide +kernel
theorem dX11_wordHere_179 : decode cX11_wordHere 179 = .ok (.iastore, 1) := by decide +kernel
theorem dX11_wordHere_180 : decode cX11_wordHere 180 = .ok (.aload_n 0, 1) := by decide +kernel
theorem dX11_wordHere_181 : decode cX11_wordHere 181 = .ok (.getfield 215, 3) := by decide +kernel
theorem dX11_wordHere_184 : decode cX11_wordHere 184 = .ok (.aload_n 0, 1) := by decide +kernel
theorem dX11_wordHere_185 : decode cX11_wordHere 185 = .ok (.getfield 212, 3) := by decide +kernel
theorem dX11_wordHere_188 : decode cX11_wordHere 188 = .ok (.if_icmp .ne 5, 3) := by decide +kernel
theorem dX11_wordHere_191 : decode cX11_wordHere 191 = .ok (.iconst 1, 1) := by decide +kernel
theorem dX11_wordHere_192 : decode cX11_wordHere 192 = .ok (.ireturn, 1) := by decide +kernel
theorem dX11_wordHere_193 : decode cX11_wordHere 193 = .ok (.aload_n 0, 1) := by decide +kernel
theorem dX11_wordHere_194 : decode cX11_wordHere 194 = .ok (.invokevirtual 227, 3) := by decide +kernel
theorem dX11_wordHere_197 : decode cX11_wordHere 197 = .ok (.bipush 32, 2) := by decide +kernel
theorem dX11_wordHere_199 : decode cX11_wordHere 199 = .ok (.if_icmp .ne 10, 3) := by decide +kernel
theorem dX11_wordHere_202 : decode cX11_wordHere 202 = .ok (.aload_n 1, 1) := by decide +kernel
theorem dX11_wordHere_203 : decode cX11_wordHere 203 = .ok (.iconst 3, 1) := by decide +kernel
theorem dX11_wordHere_204 : decode cX11_wordHere 204 = .ok (.iaload, 1) := by decide +kernel
theorem dX11_wordHere_205 : decode cX11_wordHere 205 = .ok (.iconst 4, 1) := by decide +kernel
theorem dX11_wordHere_206 : decode cX11_wordHere 206 = .ok (.if_icmp .ne 8, 3) := by decide +kernel
theorem dX11_wordHere_209 : decode cX11_wordHere 209 = .ok (.aload_n 0, 1) := by decide +kernel
theorem dX11_wordHere_210 : decode cX11_wordHere 210 = .ok (.invokevirtual 234, 3) := by decide +kernel
theorem dX11_wordHere_213 : decode cX11_wordHere 213 = .ok (.ireturn, 1) := by decide +kernel
theorem dX11_wordHere_214 : decode cX11_wordHere 214 = .ok (.aload_n 0, 1) := by decide +kernel
theorem dX11_wordHere_215 : decode cX11_wordHere 215 = .ok (.dup, 1) := by decide +kernel
theorem dX11_wordHere_216 : decode cX11_wordHere 216 = .ok (.getfield 215, 3) := by decide +kernel
theorem dX11_wordHere_219 : decode cX11_wordHere 219 = .ok (.iconst 1, 1) := by decide +kernel
theorem dX11_wordHere_220 : decode cX11_wordHere 220 = .ok (.iadd, 1) := by decide +kernel
theorem dX11_wordHere_221 : decode cX11_wordHere 221 = .ok (.putfield 215, 3) := by decide +kernel
theorem dX11_wordHere_224 : decode cX11_wordHere 224 = .ok (.aload_n 0, 1) := by decide +kernel
theorem dX11_wordHere_225 : decode cX11_wordHere 225 = .ok (.getfield 139, 3) := by decide +kernel
theorem dX11_wordHere_228 : decode cX11_wordHere 228 = .ok (.iconst 5, 1) := by decide +kernel
theorem dX11_wordHere_229 : decode cX11_wordHere 229 = .ok (.aload_n 0, 1) := by decide +kernel
theorem dX11_wordHere_230 : decode cX11_wordHere 230 = .ok (.invokevirtual 227, 3) := by decide +kernel
theorem dX11_wordHere_233 : decode cX11_wordHere 233 = .ok (.bipush 111, 2) := by decide +kernel
theorem dX11_wordHere_235 : decode cX11_wordHere 235 = .ok (.if_icmp .ne 7, 3) := by decide +kernel
theorem dX11_wordHere_238 : decode cX11_wordHere 238 = .ok (.iconst 1, 1) := by decide +kernel
theorem dX11_wordHere_239 : decode cX11_wordHere 239 = .ok (.goto 4, 3) := by decide +kernel
theorem dX11_wordHere_242 : decode cX11_wordHere 242 = .ok (.iconst 0, 1) := by decide +kernel
theorem dX11_wordHere_243 : decode cX11_wordHere 243 = .ok (.iastore, 1) := by decide +kernel
theorem dX11_wordHere_244 : decode cX11_wordHere 244 = .ok (.aload_n 0, 1) := by decide +kernel
theorem dX11_wordHere_245 : decode cX11_wordHere 245 = .ok (.aload_n 0, 1) := by decide +kernel
theorem dX11_wordHere_246 : decode cX11_wordHere 246 = .ok (.getfield 139, 3) := by decide +kernel
theorem dX11_wordHere_249 : decode cX11_wordHere 249 = .ok (.iconst 5, 1) := by decide +kernel
theorem dX11_wordHere_250 : decode cX11_wordHere 250 = .ok (.iaload, 1) := by decide +kernel
theorem dX11_wordHere_251 : decode cX11_wordHere 251 = .ok (.iconst 1, 1) := by decide +kernel
theorem dX11_wordHere_252 : decode cX11_wordHere 252 = .ok (.if_icmp .ne 9, 3) := by decide +kernel
theorem dX11_wordHere_255 : decode cX11_wordHere 255 = .ok (.ldc_w 310, 3) := by decide +kernel
theorem dX11_wordHere_258 : decode cX11_wordHere 258 = .ok (.goto 6, 3) := by decide +kernel
theorem dX11_wordHere_261 : decode cX11_wordHere 261 = .ok (.ldc_w 312, 3) := by decide +kernel
theorem dX11_wordHere_264 : decode cX11_wordHere 264 = .ok (.invokevirtual 241, 3) := by decide +kernel
theorem dX11_wordHere_267 : decode cX11_wordHere 267 = .ok (.ifCond .ne (-128), 3) := by decide +kernel
theorem dX11_wordHere_270 : decode cX11_wordHere 270 = .ok (.iconst 0, 1) := by decide +kernel
theorem dX11_wordHere_271 : decode cX11_wordHere 271 = .ok (.ireturn, 1) := by decide +kernel
theorem dX11_vote_0 : decode cX11_vote 0 = .ok (.iload_n 1, 1) := by decide +kernel
theorem dX11_vote_1 : decode cX11_vote 1 = .ok (.iload_n 2, 1) := by decide +kernel
theorem dX11_vote_2 : decode cX11_vote 2 = .ok (.ior, 1) := by decide +kernel
theorem dX11_vote_3 : decode cX11_vote 3 = .ok (.iconst 1, 1) := by decide +kernel
theorem dX11_vote_4 : decode cX11_vote 4 = .ok (.aload_n 0, 1) := by decide +kernel
theorem dX11_vote_5 : decode cX11_vote 5 = .ok (.getfield 160, 3) := by decide +kernel
theorem dX11_vote_8 : decode cX11_vote 8 = .ok (.ishl, 1) := by decide +kernel
theorem dX11_vote_9 : decode cX11_vote 9 = .ok (.iconst 1, 1) := by decide +kernel
theorem dX11_vote_10 : decode cX11_vote 10 = .ok (.isub, 1) := by decide +kernel
theorem dX11_vote_11 : decode cX11_vote 11 = .ok (.iconst (-1), 1) := by decide +kernel
theorem dX11_vote_12 : decode cX11_vote 12 = .ok (.ixor, 1) := by decide +kernel
theorem dX11_vote_13 : decode cX11_vote 13 = .ok (.iand, 1) := by decide +kernel
theorem dX11_vote_14 : decode cX11_vote 14 = .ok (.ifCond .eq 6, 3) := by decide +kernel
theorem dX11_vote_17 : decode cX11_vote 17 = .ok (.bipush (-2), 2) := by decide +kernel
theorem dX11_vote_19 : decode cX11_vote 19 = .ok (.ireturn, 1) := by decide +kernel
theorem dX11_vote_20 : decode cX11_vote 20 = .ok (.aload_n 0, 1) := by decide +kernel
theorem dX11_vote_21 : decode cX11_vote 21 = .ok (.getfield 289, 3) := by decide +kernel
theorem dX11_vote_24 : decode cX11_vote 24 = .ok (.bipush 40, 2) := by decide +kernel
theorem dX11_vote_26 : decode cX11_vote 26 = .ok (.if_icmp .ne 6, 3) := by decide +kernel
theorem dX11_vote_29 : decode cX11_vote 29 = .ok (.bipush (-4), 2) := by decide +kernel
theorem dX11_vote_31 : decode cX11_vote 31 = .ok (.ireturn, 1) := by decide +kernel
theorem dX11_vote_32 : decode cX11_vote 32 = .ok (.aload_n 0, 1) := by decide +kernel
theorem dX11_vote_33 : decode cX11_vote 33 = .ok (.invokevirtual 314, 3) := by decide +kernel
theorem dX11_vote_36 : decode cX11_vote 36 = .ok (.istore_n 3, 1) := by decide +kernel
theorem dX11_vote_37 : decode cX11_vote 37 = .ok (.aload_n 0, 1) := by decide +kernel
theorem dX11_vote_38 : decode cX11_vote 38 = .ok (.iconst 0, 1) := by decide +kernel
theorem dX11_vote_39 : decode cX11_vote 39 = .ok (.putfield 212, 3) := by decide +kernel
theorem dX11_vote_42 : decode cX11_vote 42 = .ok (.iload_n 3, 1) := by decide +kernel
theorem dX11_vote_43 : decode cX11_vote 43 = .ok (.ifCond .ne 11, 3) := by decide +kernel
theorem dX11_vote_46 : decode cX11_vote 46 = .ok (.bipush (-10), 2) := by decide +kernel
theorem dX11_vote_48 : decode cX11_vote 48 = .ok (.aload_n 0, 1) := by decide +kernel
theorem dX11_vote_49 : decode cX11_vote 49 = .ok (.getfield 218, 3) := by decide +kernel
theorem dX11_vote_52 : decode cX11_vote 52 = .ok (.isub, 1) := by decide +kernel
theorem dX11_vote_53 : decode cX11_vote 53 = .ok (.ireturn, 1) := by decide +kernel
theorem dX11_vote_54 : decode cX11_vote 54 = .ok (.iload_n 1, 1) := by decide +kernel
theorem dX11_vote_55 : decode cX11_vote 55 = .ok (.iload_n 2, 1) := by decide +kernel
theorem dX11_vote_56 : decode cX11_vote 56 = .ok (.ior, 1) := by decide +kernel
theorem dX11_vote_57 : decode cX11_vote 57 = .ok (.invokestatic 317, 3) := by decide +kernel
theorem dX11_vote_60 : decode cX11_vote 60 = .ok (.istore 4, 2) := by decide +kernel
theorem dX11_vote_62 : decode cX11_vote 62 = .ok (.iload_n 1, 1) := by decide +kernel
theorem dX11_vote_63 : decode cX11_vote 63 = .ok (.iload_n 2, 1) := by decide +kernel
theorem dX11_vote_64 : decode cX11_vote 64 = .ok (.iand, 1) := by decide +kernel
theorem dX11_vote_65 : decode cX11_vote 65 = .ok (.ifCond .ne 25, 3) := by decide +kernel
theorem dX11_vote_68 : decode cX11_vote 68 = .ok (.iload_n 1, 1) := by decide +kernel
theorem dX11_vote_69 : decode cX11_vote 69 = .ok (.invokestatic 317, 3) := by decide +kernel
theorem dX11_vote_72 : decode cX11_vote 72 = .ok (.iload_n 2, 1) := by decide +kernel
theorem dX11_vote_73 : decode cX11_vote 73 = .ok (.invokestatic 317, 3) := by decide +kernel
theorem dX11_vote_76 : decode cX11_vote 76 = .ok (.if_icmp .le 14, 3) := by decide +kernel
theorem dX11_vote_79 : decode cX11_vote 79 = .ok (.iconst 2, 1) := by decide +kernel
theorem dX11_vote_80 : decode cX11_vote 80 = .ok (.iload 4, 2) := by decide +kernel
theorem dX11_vote_82 : decode cX11_vote 82 = .ok (.imul, 1) := by decide +kernel
theorem dX11_vote_83 : decode cX11_vote 83 = .ok (.aload_n 0, 1) := by decide +kernel
theorem dX11_vote_84 : decode cX11_vote 84 = .ok (.getfield 160, 3) := by decide +kernel
theorem dX11_vote_87 : decode cX11_vote 87 = .ok (.if_icmp .ge 6, 3) := by decide +kernel
theorem dX11_vote_90 : decode cX11_vote 90 = .ok (.bipush (-3), 2) := by decide +kernel
theorem dX11_vote_92 : decode cX11_vote 92 = .ok (.ireturn, 1) := by decide +kernel
theorem dX11_vote_93 : decode cX11_vote 93 = .ok (.aload_n 0, 1) := by decide +kernel
theorem dX11_vote_94 : decode cX11_vote 94 = .ok (.getfield 60, 3) := by decide +kernel
theorem dX11_vote_97 : decode cX11_vote 97 = .ok (.aload_n 0, 1) := by decide +kernel
theorem dX11_vote_98 : decode cX11_vote 98 = .ok (.getfield 289, 3) := by decide +kernel
theorem dX11_vote_101 : decode cX11_vote 101 = .ok (.aaload, 1) := by decide +kernel
theorem dX11_vote_102 : decode cX11_vote 102 = .ok (.iconst 4, 1) := by decide +kernel
theorem dX11_vote_103 : decode cX11_vote 103 = .ok (.aload_n 0, 1) := by decide +kernel
theorem dX11_vote_104 : decode cX11_vote 104 = .ok (.getfield 193, 3) := by decide +kernel
theorem dX11_vote_107 : decode cX11_vote 107 = .ok (.iastore, 1) := by decide +kernel
theorem dX11_vote_108 : decode cX11_vote 108 = .ok (.aload_n 0, 1) := by decide +kernel
theorem dX11_vote_109 : decode cX11_vote 109 = .ok (.getfield 60, 3) := by decide +kernel
theorem dX11_vote_112 : decode cX11_vote 112 = .ok (.aload_n 0, 1) := by decide +kernel
theorem dX11_vote_113 : decode cX11_vote 113 = .ok (.getfield 289, 3) := by decide +kernel
theorem dX11_vote_116 : decode cX11_vote 116 = .ok (.aaload, 1) := by decide +kernel
theorem dX11_vote_117 : decode cX11_vote 117 = .ok (.iconst 5, 1) := by decide +kernel
theorem dX11_vote_118 : decode cX11_vote 118 = .ok (.iconst (-1), 1) := by decide +kernel
theorem dX11_vote_119 : decode cX11_vote 119 = .ok (.iastore, 1) := by decide +kernel
theorem dX11_vote_120 : decode cX11_vote 120 = .ok (.aload_n 0, 1) := by decide +kernel
theorem dX11_vote_121 : decode cX11_vote 121 = .ok (.dup, 1) := by decide +kernel
theorem dX11_vote_122 : decode cX11_vote 122 = .ok (.getfield 289, 3) := by decide +kernel
theorem dX11_vote_125 : decode cX11_vote 125 = .ok (.dup_x1, 1) := by decide +kernel
theorem dX11_vote_126 : decode cX11_vote 126 = .ok (.iconst 1, 1) := by decide +kernel
theorem dX11_vote_127 : decode cX11_vote 127 = .ok (.iadd, 1) := by decide +kernel
theorem dX11_vote_128 : decode cX11_vote 128 = .ok (.putfield 289, 3) := by decide +kernel
theorem dX11_vote_131 : decode cX11_vote 131 = .ok (.ireturn, 1) := by decide +kernel
theorem dX11_fieldOf_0 : decode cX11_fieldOf 0 = .ok (.iload_n 1, 1) := by decide +kernel
theorem dX11_fieldOf_1 : decode cX11_fieldOf 1 = .ok (.tableswitch 77 0 4 #[35, 44, 53, 62, 71], 35) := by decide +kernel
theorem dX11_fieldOf_36 : decode cX11_fieldOf 36 = .ok (.aload_n 0, 1) := by decide +kernel
theorem dX11_fieldOf_37 : decode cX11_fieldOf 37 = .ok (.getfield 9, 3) := by decide +kernel
theorem dX11_fieldOf_40 : decode cX11_fieldOf 40 = .ok (.iload_n 2, 1) := by decide +kernel
theorem dX11_fieldOf_41 : decode cX11_fieldOf 41 = .ok (.aaload, 1) := by decide +kernel
theorem dX11_fieldOf_42 : decode cX11_fieldOf 42 = .ok (.iconst 2, 1) := by decide +kernel
theorem dX11_fieldOf_43 : decode cX11_fieldOf 43 = .ok (.iaload, 1) := by decide +kernel
theorem dX11_fieldOf_44 : decode cX11_fieldOf 44 = .ok (.ireturn, 1) := by decide +kernel
theorem dX11_fieldOf_45 : decode cX11_fieldOf 45 = .ok (.aload_n 0, 1) := by decide +kernel
theorem dX11_fieldOf_46 : decode cX11_fieldOf 46 = .ok (.getfield 9, 3) := by decide +kernel
theorem dX11_fieldOf_49 : decode cX11_fieldOf 49 = .ok (.iload_n 2, 1) := by decide +kernel
theorem dX11_fieldOf_50 : decode cX11_fieldOf 50 = .ok (.aaload, 1) := by decide +kernel
theorem dX11_fieldOf_51 : decode cX11_fieldOf 51 = .ok (.iconst 3, 1) := by decide +kernel
theorem dX11_fieldOf_52 : decode cX11_fieldOf 52 = .ok (.iaload, 1) := by decide +kernel
theorem dX11_fieldOf_53 : decode cX11_fieldOf 53 = .ok (.ireturn, 1) := by decide +kernel
theorem dX11_fieldOf_54 : decode cX11_fieldOf 54 = .ok (.aload_n 0, 1) := by decide +kernel
theorem dX11_fieldOf_55 : decode cX11_fieldOf 55 = .ok (.getfield 9, 3) := by decide +kernel
theorem dX11_fieldOf_58 : decode cX11_fieldOf 58 = .ok (.iload_n 2, 1) := by decide +kernel
theorem dX11_fieldOf_59 : decode cX11_fieldOf 59 = .ok (.aaload, 1) := by decide +kernel
theorem dX11_fieldOf_60 : decode cX11_fieldOf 60 = .ok (.iconst 1, 1) := by decide +kernel
theorem dX11_fieldOf_61 : decode cX11_fieldOf 61 = .ok (.iaload, 1) := by decide +kernel
theorem dX11_fieldOf_62 : decode cX11_fieldOf 62 = .ok (.ireturn, 1) := by decide +kernel
theorem dX11_fieldOf_63 : decode cX11_fieldOf 63 = .ok (.aload_n 0, 1) := by decide +kernel
theorem dX11_fieldOf_64 : decode cX11_fieldOf 64 = .ok (.getfield 9, 3) := by decide +kernel
theorem dX11_fieldOf_67 : decode cX11_fieldOf 67 = .ok (.iload_n 2, 1) := by decide +kernel
theorem dX11_fieldOf_68 : decode cX11_fieldOf 68 = .ok (.aaload, 1) := by decide +kernel
theorem dX11_fieldOf_69 : decode cX11_fieldOf 69 = .ok (.iconst 0, 1) := by decide +kernel
theorem dX11_fieldOf_70 : decode cX11_fieldOf 70 = .ok (.iaload, 1) := by decide +kernel
theorem dX11_fieldOf_71 : decode cX11_fieldOf 71 = .ok (.ireturn, 1) := by decide +kernel
theorem dX11_fieldOf_72 : decode cX11_fieldOf 72 = .ok (.iload_n 3, 1) := by decide +kernel
theorem dX11_fieldOf_73 : decode cX11_fieldOf 73 = .ok (.sipush 360, 3) := by decide +kernel
theorem dX11_fieldOf_76 : decode cX11_fieldOf 76 = .ok (.idiv, 1) := by decide +kernel
theorem dX11_fieldOf_77 : decode cX11_fieldOf 77 = .ok (.ireturn, 1) := by decide +kernel
theorem dX11_fieldOf_78 : decode cX11_fieldOf 78 = .ok (.iload_n 3, 1) := by decide +kernel
theorem dX11_fieldOf_79 : decode cX11_fieldOf 79 = .ok (.sipush 360, 3) := by decide +kernel
theorem dX11_fieldOf_82 : decode cX11_fieldOf 82 = .ok (.irem, 1) := by decide +kernel
theorem dX11_fieldOf_83 : decode cX11_fieldOf 83 = .ok (.ireturn, 1) := by decide +kernel
theorem dX11_one_0 : decode cX11_one 0 = .ok (.aload_n 0, 1) := by decide +kernel
theorem dX11_one_1 : decode cX11_one 1 = .ok (.aload_n 1, 1) := by decide +kernel
theorem dX11_one_2 : decode cX11_one 2 = .ok (.iload_n 2, 1) := by decide +kernel
theorem dX11_one_3 : decode cX11_one 3 = .ok (.iconst 1, 1) := by decide +kernel
theorem dX11_one_4 : decode cX11_one 4 = .ok (.iadd, 1) := by decide +kernel
theorem dX11_one_5 : decode cX11_one 5 = .ok (.iaload, 1) := by decide +kernel
theorem dX11_one_6 : decode cX11_one 6 = .ok (.iload_n 3, 1) := by decide +kernel
theorem dX11_one_7 : decode cX11_one 7 = .ok (.iload 4, 2) := by decide +kernel
theorem dX11_one_9 : decode cX11_one 9 = .ok (.invokevirtual 322, 3) := by decide +kernel
theorem dX11_one_12 : decode cX11_one 12 = .ok (.istore 5, 2) := by decide +kernel
theorem dX11_one_14 : decode cX11_one 14 = .ok (.aload_n 1, 1) := by decide +kernel
theorem dX11_one_15 : decode cX11_one 15 = .ok (.iload_n 2, 1) := by decide +kernel
theorem dX11_one_16 : decode cX11_one 16 = .ok (.iconst 3, 1) := by decide +kernel
theorem dX11_one_17 : decode cX11_one 17 = .ok (.iadd, 1) := by decide +kernel
theorem dX11_one_18 : decode cX11_one 18 = .ok (.iaload, 1) := by decide +kernel
theorem dX11_one_19 : decode cX11_one 19 = .ok (.bipush 60, 2) := by decide +kernel
theorem dX11_one_21 : decode cX11_one 21 = .ok (.if_icmp .ne 21, 3) := by decide +kernel
theorem dX11_one_24 : decode cX11_one 24 = .ok (.iload 5, 2) := by decide +kernel
theorem dX11_one_26 : decode cX11_one 26 = .ok (.aload_n 1, 1) := by decide +kernel
theorem dX11_one_27 : decode cX11_one 27 = .ok (.iload_n 2, 1) := by decide +kernel
theorem dX11_one_28 : decode cX11_one 28 = .ok (.iconst 4, 1) := by decide +kernel
theorem dX11_one_29 : decode cX11_one 29 = .ok (.iadd, 1) := by decide +kernel
theorem dX11_one_30 : decode cX11_one 30 = .ok (.iaload, 1) := by decide +kernel
theorem dX11_one_31 : decode cX11_one 31 = .ok (.if_icmp .ge 7, 3) := by decide +kernel
theorem dX11_one_34 : decode cX11_one 34 = .ok (.iconst 1, 1) := by decide +kernel
theorem dX11_one_35 : decode cX11_one 35 = .ok (.goto 50, 3) := by decide +kernel
theorem dX11_one_38 : decode cX11_one 38 = .ok (.iconst 0, 1) := by decide +kernel
theorem dX11_one_39 : decode cX11_one 39 = .ok (.goto 46, 3) := by decide +kernel
theorem dX11_one_42 : decode cX11_one 42 = .ok (.aload_n 1, 1) := by decide +kernel
theorem dX11_one_43 : decode cX11_one 43 = .ok (.iload_n 2, 1) := by decide +kernel
theorem dX11_one_44 : decode cX11_one 44 = .ok (.iconst 3, 1) := by decide +kernel
theorem dX11_one_45 : decode cX11_one 45 = .ok (.iadd, 1) := by decide +kernel
theorem dX11_one_46 : decode cX11_one 46 = .ok (.iaload, 1) := by decide +kernel
theorem dX11_one_47 : decode cX11_one 47 = .ok (.bipush 61, 2) := by decide +kernel
theorem dX11_one_49 : decode cX11_one 49 = .ok (.if_icmp .ne 21, 3) := by decide +kernel
theorem dX11_one_52 : decode cX11_one 52 = .ok (.iload 5, 2) := by decide +kernel
theorem dX11_one_54 : decode cX11_one 54 = .ok (.aload_n 1, 1) := by decide +kernel
theorem dX11_one_55 : decode cX11_one 55 = .ok (.iload_n 2, 1) := by decide +kernel
theorem dX11_one_56 : decode cX11_one 56 = .ok (.iconst 4, 1) := by decide +kernel
theorem dX11_one_57 : decode cX11_one 57 = .ok (.iadd, 1) := by decide +kernel
theorem dX11_one_58 : decode cX11_one 58 = .ok (.iaload, 1) := by decide +kernel
theorem dX11_one_59 : decode cX11_one 59 = .ok (.if_icmp .ne 7, 3) := by decide +kernel
theorem dX11_one_62 : decode cX11_one 62 = .ok (.iconst 1, 1) := by decide +kernel
theorem dX11_one_63 : decode cX11_one 63 = .ok (.goto 22, 3) := by decide +kernel
theorem dX11_one_66 : decode cX11_one 66 = .ok (.iconst 0, 1) := by decide +kernel
theorem dX11_one_67 : decode cX11_one 67 = .ok (.goto 18, 3) := by decide +kernel
theorem dX11_one_70 : decode cX11_one 70 = .ok (.iload 5, 2) := by decide +kernel
theorem dX11_one_72 : decode cX11_one 72 = .ok (.aload_n 1, 1) := by decide +kernel
theorem dX11_one_73 : decode cX11_one 73 = .ok (.iload_n 2, 1) := by decide +kernel
theorem dX11_one_74 : decode cX11_one 74 = .ok (.iconst 4, 1) := by decide +kernel
theorem dX11_one_75 : decode cX11_one 75 = .ok (.iadd, 1) := by decide +kernel
theorem dX11_one_76 : decode cX11_one 76 = .ok (.iaload, 1) := by decide +kernel
theorem dX11_one_77 : decode cX11_one 77 = .ok (.if_icmp .le 7, 3) := by decide +kernel
theorem dX11_one_80 : decode cX11_one 80 = .ok (.iconst 1, 1) := by decide +kernel
theorem dX11_one_81 : decode cX11_one 81 = .ok (.goto 4, 3) := by decide +kernel
theorem dX11_one_84 : decode cX11_one 84 = .ok (.iconst 0, 1) := by decide +kernel
theorem dX11_one_85 : decode cX11_one 85 = .ok (.istore 6, 2) := by decide +kernel
theorem dX11_one_87 : decode cX11_one 87 = .ok (.iload 6, 2) := by decide +kernel
theorem dX11_one_89 : decode cX11_one 89 = .ok (.aload_n 1, 1) := by decide +kernel
theorem dX11_one_90 : decode cX11_one 90 = .ok (.iload_n 2, 1) := by decide +kernel
theorem dX11_one_91 : decode cX11_one 91 = .ok (.iaload, 1) := by decide +kernel
theorem dX11_one_92 : decode cX11_one 92 = .ok (.iconst 1, 1) := by decide +kernel
theorem dX11_one_93 : decode cX11_one 93 = .ok (.if_icmp .ne 7, 3) := by decide +kernel
theorem dX11_one_96 : decode cX11_one 96 = .ok (.iconst 1, 1) := by decide +kernel
theorem dX11_one_97 : decode cX11_one 97 = .ok (.goto 4, 3) := by decide +kernel
theorem dX11_one_100 : decode cX11_one 100 = .ok (.iconst 0, 1) := by decide +kernel
theorem dX11_one_101 : decode cX11_one 101 = .ok (.if_icmp .eq 7, 3) := by decide +kernel
theorem dX11_one_104 : decode cX11_one 104 = .ok (.iconst 1, 1) := by decide +kernel
theorem dX11_one_105 : decode cX11_one 105 = .ok (.goto 4, 3) := by decide +kernel
theorem dX11_one_108 : decode cX11_one 108 = .ok (.iconst 0, 1) := by decide +kernel
theorem dX11_one_109 : decode cX11_one 109 = .ok (.ireturn, 1) := by decide +kernel
theorem dX11_hold_0 : decode cX11_hold 0 = .ok (.aload_n 0, 1) := by decide +kernel
theorem dX11_hold_1 : decode cX11_hold 1 = .ok (.getfield 60, 3) := by decide +kernel
theorem dX11_hold_4 : decode cX11_hold 4 = .ok (.iload_n 1, 1) := by decide +kernel
theorem dX11_hold_5 : decode cX11_hold 5 = .ok (.aaload, 1) := by decide +kernel
theorem dX11_hold_6 : decode cX11_hold 6 = .ok (.iconst 2, 1) := by decide +kernel
theorem dX11_hold_7 : decode cX11_hold 7 = .ok (.iaload, 1) := by decide +kernel
theorem dX11_hold_8 : decode cX11_hold 8 = .ok (.ifCond .ne 5, 3) := by decide +kernel
theorem dX11_hold_11 : decode cX11_hold 11 = .ok (.iconst 1, 1) := by decide +kernel
theorem dX11_hold_12 : decode cX11_hold 12 = .ok (.ireturn, 1) := by decide +kernel
theorem dX11_hold_13 : decode cX11_hold 13 = .ok (.iconst 0, 1) := by decide +kernel
theorem dX11_hold_14 : decode cX11_hold 14 = .ok (.istore 4, 2) := by decide +kernel
theorem dX11_hold_16 : decode cX11_hold 16 = .ok (.iconst 1, 1) := by decide +kernel
theorem dX11_hold_17 : decode cX11_hold 17 = .ok (.istore 5, 2) := by decide +kernel
theorem dX11_hold_19 : decode cX11_hold 19 = .ok (.iconst 0, 1) := by decide +kernel
theorem dX11_hold_20 : decode cX11_hold 20 = .ok (.istore 6, 2) := by decide +kernel
theorem dX11_hold_22 : decode cX11_hold 22 = .ok (.iload 6, 2) := by decide +kernel
theorem dX11_hold_24 : decode cX11_hold 24 = .ok (.aload_n 0, 1) := by decide +kernel
theorem dX11_hold_25 : decode cX11_hold 25 = .ok (.getfield 60, 3) := by decide +kernel
theorem dX11_hold_28 : decode cX11_hold 28 = .ok (.iload_n 1, 1) := by decide +kernel
theorem dX11_hold_29 : decode cX11_hold 29 = .ok (.aaload, 1) := by decide +kernel
theorem dX11_hold_30 : decode cX11_hold 30 = .ok (.iconst 3, 1) := by decide +kernel
theorem dX11_hold_31 : decode cX11_hold 31 = .ok (.iaload, 1) := by decide +kernel
theorem dX11_hold_32 : decode cX11_hold 32 = .ok (.if_icmp .ge 59, 3) := by decide +kernel
theorem dX11_hold_35 : decode cX11_hold 35 = .ok (.aload_n 0, 1) := by decide +kernel
theorem dX11_hold_36 : decode cX11_hold 36 = .ok (.getfield 63, 3) := by decide +kernel
theorem dX11_hold_39 : decode cX11_hold 39 = .ok (.iload_n 1, 1) := by decide +kernel
theorem dX11_hold_40 : decode cX11_hold 40 = .ok (.aaload, 1) := by decide +kernel
theorem dX11_hold_41 : decode cX11_hold 41 = .ok (.bipush 6, 2) := by decide +kernel
theorem dX11_hold_43 : decode cX11_hold 43 = .ok (.iload 6, 2) := by decide +kernel
theorem dX11_hold_45 : decode cX11_hold 45 = .ok (.imul, 1) := by decide +kernel
theorem dX11_hold_46 : decode cX11_hold 46 = .ok (.iconst 5, 1) := by decide +kernel
theorem dX11_hold_47 : decode cX11_hold 47 = .ok (.iadd, 1) := by decide +kernel
theorem dX11_hold_48 : decode cX11_hold 48 = .ok (.iaload, 1) := by decide +kernel
theorem dX11_hold_49 : decode cX11_hold 49 = .ok (.iconst 1, 1) := by decide +kernel
theorem dX11_hold_50 : decode cX11_hold 50 = .ok (.if_icmp .ne 13, 3) := by decide +kernel
theorem dX11_hold_53 : decode cX11_hold 53 = .ok (.iload 4, 2) := by decide +kernel
theorem dX11_hold_55 : decode cX11_hold 55 = .ok (.iload 5, 2) := by decide +kernel
theorem dX11_hold_57 : decode cX11_hold 57 = .ok (.ior, 1) := by decide +kernel
theorem dX11_hold_58 : decode cX11_hold 58 = .ok (.istore 4, 2) := by decide +kernel
theorem dX11_hold_60 : decode cX11_hold 60 = .ok (.iconst 1, 1) := by decide +kernel
theorem dX11_hold_61 : decode cX11_hold 61 = .ok (.istore 5, 2) := by decide +kernel
theorem dX11_hold_63 : decode cX11_hold 63 = .ok (.iload 5, 2) := by decide +kernel
theorem dX11_hold_65 : decode cX11_hold 65 = .ok (.aload_n 0, 1) := by decide +kernel
theorem dX11_hold_66 : decode cX11_hold 66 = .ok (.aload_n 0, 1) := by decide +kernel
theorem dX11_hold_67 : decode cX11_hold 67 = .ok (.getfield 63, 3) := by decide +kernel
theorem dX11_hold_70 : decode cX11_hold 70 = .ok (.iload_n 1, 1) := by decide +kernel
theorem dX11_hold_71 : decode cX11_hold 71 = .ok (.aaload, 1) := by decide +kernel
theorem dX11_hold_72 : decode cX11_hold 72 = .ok (.bipush 6, 2) := by decide +kernel
theorem dX11_hold_74 : decode cX11_hold 74 = .ok (.iload 6, 2) := by decide +kernel
theorem dX11_hold_76 : decode cX11_hold 76 = .ok (.imul, 1) := by decide +kernel
theorem dX11_hold_77 : decode cX11_hold 77 = .ok (.iload_n 2, 1) := by decide +kernel
theorem dX11_hold_78 : decode cX11_hold 78 = .ok (.iload_n 3, 1) := by decide +kernel
theorem dX11_hold_79 : decode cX11_hold 79 = .ok (.invokevirtual 325, 3) := by decide +kernel
theorem dX11_hold_82 : decode cX11_hold 82 = .ok (.iand, 1) := by decide +kernel
theorem dX11_hold_83 : decode cX11_hold 83 = .ok (.istore 5, 2) := by decide +kernel
theorem dX11_hold_85 : decode cX11_hold 85 = .ok (.iinc 6 1, 3) := by decide +kernel
theorem dX11_hold_88 : decode cX11_hold 88 = .ok (.goto (-66), 3) := by decide +kernel
theorem dX11_hold_91 : decode cX11_hold 91 = .ok (.iload 4, 2) := by decide +kernel
theorem dX11_hold_93 : decode cX11_hold 93 = .ok (.iload 5, 2) := by decide +kernel
theorem dX11_hold_95 : decode cX11_hold 95 = .ok (.ior, 1) := by decide +kernel
theorem dX11_hold_96 : decode cX11_hold 96 = .ok (.aload_n 0, 1) := by decide +kernel
theorem dX11_hold_97 : decode cX11_hold 97 = .ok (.getfield 60, 3) := by decide +kernel
theorem dX11_hold_100 : decode cX11_hold 100 = .ok (.iload_n 1, 1) := by decide +kernel
theorem dX11_hold_101 : decode cX11_hold 101 = .ok (.aaload, 1) := by decide +kernel
theorem dX11_hold_102 : decode cX11_hold 102 = .ok (.iconst 2, 1) := by decide +kernel
theorem dX11_hold_103 : decode cX11_hold 103 = .ok (.iaload, 1) := by decide +kernel
theorem dX11_hold_104 : decode cX11_hold 104 = .ok (.iconst 1, 1) := by decide +kernel
theorem dX11_hold_105 : decode cX11_hold 105 = .ok (.if_icmp .ne 7, 3) := by decide +kernel
theorem dX11_hold_108 : decode cX11_hold 108 = .ok (.iconst 1, 1) := by decide +kernel
theorem dX11_hold_109 : decode cX11_hold 109 = .ok (.goto 4, 3) := by decide +kernel
theorem dX11_hold_112 : decode cX11_hold 112 = .ok (.iconst 0, 1) := by decide +kernel
theorem dX11_hold_113 : decode cX11_hold 113 = .ok (.if_icmp .ne 7, 3) := by decide +kernel
theorem dX11_hold_116 : decode cX11_hold 116 = .ok (.iconst 1, 1) := by decide +kernel
theorem dX11_hold_117 : decode cX11_hold 117 = .ok (.goto 4, 3) := by decide +kernel
theorem dX11_hold_120 : decode cX11_hold 120 = .ok (.iconst 0, 1) := by decide +kernel
theorem dX11_hold_121 : decode cX11_hold 121 = .ok (.ireturn, 1) := by decide +kernel
theorem dX11_whyOf_0 : decode cX11_whyOf 0 = .ok (.iconst (-1), 1) := by decide +kernel
theorem dX11_whyOf_1 : decode cX11_whyOf 1 = .ok (.istore 5, 2) := by decide +kernel
theorem dX11_whyOf_3 : decode cX11_whyOf 3 = .ok (.iconst 0, 1) := by decide +kernel
theorem dX11_whyOf_4 : decode cX11_whyOf 4 = .ok (.istore 6, 2) := by decide +kernel
theorem dX11_whyOf_6 : decode cX11_whyOf 6 = .ok (.iload 6, 2) := by decide +kernel
theorem dX11_whyOf_8 : decode cX11_whyOf 8 = .ok (.aload_n 0, 1) := by decide +kernel
theorem dX11_whyOf_9 : decode cX11_whyOf 9 = .ok (.getfield 289, 3) := by decide +kernel
theorem dX11_whyOf_12 : decode cX11_whyOf 12 = .ok (.if_icmp .ge 102, 3) := by decide +kernel
theorem dX11_whyOf_15 : decode cX11_whyOf 15 = .ok (.aload_n 0, 1) := by decide +kernel
theorem dX11_whyOf_16 : decode cX11_whyOf 16 = .ok (.getfield 60, 3) := by decide +kernel
theorem dX11_whyOf_19 : decode cX11_whyOf 19 = .ok (.iload 6, 2) := by decide +kernel
theorem dX11_whyOf_21 : decode cX11_whyOf 21 = .ok (.aaload, 1) := by decide +kernel
theorem dX11_whyOf_22 : decode cX11_whyOf 22 = .ok (.iconst 4, 1) := by decide +kernel
theorem dX11_whyOf_23 : decode cX11_whyOf 23 = .ok (.iaload, 1) := by decide +kernel
theorem dX11_whyOf_24 : decode cX11_whyOf 24 = .ok (.iload_n 3, 1) := by decide +kernel
theorem dX11_whyOf_25 : decode cX11_whyOf 25 = .ok (.if_icmp .gt 47, 3) := by decide +kernel
theorem dX11_whyOf_28 : decode cX11_whyOf 28 = .ok (.aload_n 0, 1) := by decide +kernel
theorem dX11_whyOf_29 : decode cX11_whyOf 29 = .ok (.getfield 60, 3) := by decide +kernel
theorem dX11_whyOf_32 : decode cX11_whyOf 32 = .ok (.iload 6, 2) := by decide +kernel
theorem dX11_whyOf_34 : decode cX11_whyOf 34 = .ok (.aaload, 1) := by decide +kernel
theorem dX11_whyOf_35 : decode cX11_whyOf 35 = .ok (.iconst 4, 1) := by decide +kernel
theorem dX11_whyOf_36 : decode cX11_whyOf 36 = .ok (.iaload, 1) := by decide +kernel
theorem dX11_whyOf_37 : decode cX11_whyOf 37 = .ok (.iload 4, 2) := by decide +kernel
theorem dX11_whyOf_39 : decode cX11_whyOf 39 = .ok (.if_icmp .gt 33, 3) := by decide +kernel
theorem dX11_whyOf_42 : decode cX11_whyOf 42 = .ok (.aload_n 0, 1) := by decide +kernel
theorem dX11_whyOf_43 : decode cX11_whyOf 43 = .ok (.getfield 60, 3) := by decide +kernel
theorem dX11_whyOf_46 : decode cX11_whyOf 46 = .ok (.iload 6, 2) := by decide +kernel
theorem dX11_whyOf_48 : decode cX11_whyOf 48 = .ok (.aaload, 1) := by decide +kernel
theorem dX11_whyOf_49 : decode cX11_whyOf 49 = .ok (.iconst 5, 1) := by decide +kernel
theorem dX11_whyOf_50 : decode cX11_whyOf 50 = .ok (.iaload, 1) := by decide +kernel
theorem dX11_whyOf_51 : decode cX11_whyOf 51 = .ok (.ifCond .lt 17, 3) := by decide +kernel
theorem dX11_whyOf_54 : decode cX11_whyOf 54 = .ok (.aload_n 0, 1) := by decide +kernel
theorem dX11_whyOf_55 : decode cX11_whyOf 55 = .ok (.getfield 60, 3) := by decide +kernel
theorem dX11_whyOf_58 : decode cX11_whyOf 58 = .ok (.iload 6, 2) := by decide +kernel
theorem dX11_whyOf_60 : decode cX11_whyOf 60 = .ok (.aaload, 1) := by decide +kernel
theorem dX11_whyOf_61 : decode cX11_whyOf 61 = .ok (.iconst 5, 1) := by decide +kernel
theorem dX11_whyOf_62 : decode cX11_whyOf 62 = .ok (.iaload, 1) := by decide +kernel
theorem dX11_whyOf_63 : decode cX11_whyOf 63 = .ok (.iload 4, 2) := by decide +kernel
theorem dX11_whyOf_65 : decode cX11_whyOf 65 = .ok (.if_icmp .le 7, 3) := by decide +kernel
theorem dX11_whyOf_68 : decode cX11_whyOf 68 = .ok (.iconst 1, 1) := by decide +kernel
theorem dX11_whyOf_69 : decode cX11_whyOf 69 = .ok (.goto 4, 3) := by decide +kernel
theorem dX11_whyOf_72 : decode cX11_whyOf 72 = .ok (.iconst 0, 1) := by decide +kernel
theorem dX11_whyOf_73 : decode cX11_whyOf 73 = .ok (.istore 7, 2) := by decide +kernel
theorem dX11_whyOf_75 : decode cX11_whyOf 75 = .ok (.iload 7, 2) := by decide +kernel
theorem dX11_whyOf_77 : decode cX11_whyOf 77 = .ok (.ifCond .eq 31, 3) := by decide +kernel
theorem dX11_whyOf_80 : decode cX11_whyOf 80 = .ok (.aload_n 0, 1) := by decide +kernel
theorem dX11_whyOf_81 : decode cX11_whyOf 81 = .ok (.getfield 60, 3) := by decide +kernel
theorem dX11_whyOf_84 : decode cX11_whyOf 84 = .ok (.iload 6, 2) := by decide +kernel
theorem dX11_whyOf_86 : decode cX11_whyOf 86 = .ok (.aaload, 1) := by decide +kernel
theorem dX11_whyOf_87 : decode cX11_whyOf 87 = .ok (.iconst 0, 1) := by decide +kernel
theorem dX11_whyOf_88 : decode cX11_whyOf 88 = .ok (.iaload, 1) := by decide +kernel
theorem dX11_whyOf_89 : decode cX11_whyOf 89 = .ok (.iload_n 2, 1) := by decide +kernel
theorem dX11_whyOf_90 : decode cX11_whyOf 90 = .ok (.if_icmp .ne 18, 3) := by decide +kernel
theorem dX11_whyOf_93 : decode cX11_whyOf 93 = .ok (.aload_n 0, 1) := by decide +kernel
theorem dX11_whyOf_94 : decode cX11_whyOf 94 = .ok (.iload 6, 2) := by decide +kernel
theorem dX11_whyOf_96 : decode cX11_whyOf 96 = .ok (.iload_n 1, 1) := by decide +kernel
theorem dX11_whyOf_97 : decode cX11_whyOf 97 = .ok (.iload_n 3, 1) := by decide +kernel
theorem dX11_whyOf_98 : decode cX11_whyOf 98 = .ok (.invokevirtual 329, 3) := by decide +kernel
theorem dX11_whyOf_101 : decode cX11_whyOf 101 = .ok (.ifCond .eq 7, 3) := by decide +kernel
theorem dX11_whyOf_104 : decode cX11_whyOf 104 = .ok (.iload 6, 2) := by decide +kernel
theorem dX11_whyOf_106 : decode cX11_whyOf 106 = .ok (.istore 5, 2) := by decide +kernel
theorem dX11_whyOf_108 : decode cX11_whyOf 108 = .ok (.iinc 6 1, 3) := by decide +kernel
theorem dX11_whyOf_111 : decode cX11_whyOf 111 = .ok (.goto (-105), 3) := by decide +kernel
theorem dX11_whyOf_114 : decode cX11_whyOf 114 = .ok (.iload 5, 2) := by decide +kernel
theorem dX11_whyOf_116 : decode cX11_whyOf 116 = .ok (.ireturn, 1) := by decide +kernel
theorem dX11_valueOf_0 : decode cX11_valueOf 0 = .ok (.aload_n 0, 1) := by decide +kernel
theorem dX11_valueOf_1 : decode cX11_valueOf 1 = .ok (.iload_n 1, 1) := by decide +kernel
theorem dX11_valueOf_2 : decode cX11_valueOf 2 = .ok (.iload_n 2, 1) := by decide +kernel
theorem dX11_valueOf_3 : decode cX11_valueOf 3 = .ok (.iload_n 3, 1) := by decide +kernel
theorem dX11_valueOf_4 : decode cX11_valueOf 4 = .ok (.iload 4, 2) := by decide +kernel
theorem dX11_valueOf_6 : decode cX11_valueOf 6 = .ok (.invokevirtual 332, 3) := by decide +kernel
theorem dX11_valueOf_9 : decode cX11_valueOf 9 = .ok (.istore 5, 2) := by decide +kernel
theorem dX11_valueOf_11 : decode cX11_valueOf 11 = .ok (.iload 5, 2) := by decide +kernel
theorem dX11_valueOf_13 : decode cX11_valueOf 13 = .ok (.ifCond .ge 11, 3) := by decide +kernel
theorem dX11_valueOf_16 : decode cX11_valueOf 16 = .ok (.getstatic 336, 3) := by decide +kernel
theorem dX11_valueOf_19 : decode cX11_valueOf 19 = .ok (.iload_n 2, 1) := by decide +kernel
theorem dX11_valueOf_20 : decode cX11_valueOf 20 = .ok (.iaload, 1) := by decide +kernel
theorem dX11_valueOf_21 : decode cX11_valueOf 21 = .ok (.goto 12, 3) := by decide +kernel
theorem dX11_valueOf_24 : decode cX11_valueOf 24 = .ok (.aload_n 0, 1) := by decide +kernel
theorem dX11_valueOf_25 : decode cX11_valueOf 25 = .ok (.getfield 60, 3) := by decide +kernel
theorem dX11_valueOf_28 : decode cX11_valueOf 28 = .ok (.iload 5, 2) := by decide +kernel
theorem dX11_valueOf_30 : decode cX11_valueOf 30 = .ok (.aaload, 1) := by decide +kernel
theorem dX11_valueOf_31 : decode cX11_valueOf 31 = .ok (.iconst 1, 1) := by decide +kernel
theorem dX11_valueOf_32 : decode cX11_valueOf 32 = .ok (.iaload, 1) := by decide +kernel
theorem dX11_valueOf_33 : decode cX11_valueOf 33 = .ok (.ireturn, 1) := by decide +kernel
theorem dX11_now_0 : decode cX11_now 0 = .ok (.aload_n 0, 1) := by decide +kernel
theorem dX11_now_1 : decode cX11_now 1 = .ok (.iload_n 1, 1) := by decide +kernel
theorem dX11_now_2 : decode cX11_now 2 = .ok (.iload_n 2, 1) := by decide +kernel
theorem dX11_now_3 : decode cX11_now 3 = .ok (.aload_n 0, 1) := by decide +kernel
theorem dX11_now_4 : decode cX11_now 4 = .ok (.getfield 193, 3) := by decide +kernel
theorem dX11_now_7 : decode cX11_now 7 = .ok (.aload_n 0, 1) := by decide +kernel
theorem dX11_now_8 : decode cX11_now 8 = .ok (.getfield 193, 3) := by decide +kernel
theorem dX11_now_11 : decode cX11_now 11 = .ok (.invokevirtual 339, 3) := by decide +kernel
theorem dX11_now_14 : decode cX11_now 14 = .ok (.ireturn, 1) := by decide +kernel
theorem dX11_voids_0 : decode cX11_voids 0 = .ok (.iload_n 1, 1) := by decide +kernel
theorem dX11_voids_1 : decode cX11_voids 1 = .ok (.iconst 0, 1) := by decide +kernel
theorem dX11_voids_2 : decode cX11_voids 2 = .ok (.aload_n 0, 1) := by decide +kernel
theorem dX11_voids_3 : decode cX11_voids 3 = .ok (.getfield 289, 3) := by decide +kernel
theorem dX11_voids_6 : decode cX11_voids 6 = .ok (.iconst 1, 1) := by decide +kernel
theorem dX11_voids_7 : decode cX11_voids 7 = .ok (.isub, 1) := by decide +kernel
theorem dX11_voids_8 : decode cX11_voids 8 = .ok (.invokestatic 163, 3) := by decide +kernel
theorem dX11_voids_11 : decode cX11_voids 11 = .ok (.ifCond .ne 5, 3) := by decide +kernel
theorem dX11_voids_14 : decode cX11_voids 14 = .ok (.iconst (-1), 1) := by decide +kernel
theorem dX11_voids_15 : decode cX11_voids 15 = .ok (.ireturn, 1) := by decide +kernel
theorem dX11_voids_16 : decode cX11_voids 16 = .ok (.aload_n 0, 1) := by decide +kernel
theorem dX11_voids_17 : decode cX11_voids 17 = .ok (.getfield 60, 3) := by decide +kernel
theorem dX11_voids_20 : decode cX11_voids 20 = .ok (.iload_n 1, 1) := by decide +kernel
theorem dX11_voids_21 : decode cX11_voids 21 = .ok (.aaload, 1) := by decide +kernel
theorem dX11_voids_22 : decode cX11_voids 22 = .ok (.iconst 5, 1) := by decide +kernel
theorem dX11_voids_23 : decode cX11_voids 23 = .ok (.iaload, 1) := by decide +kernel
theorem dX11_voids_24 : decode cX11_voids 24 = .ok (.ifCond .lt 6, 3) := by decide +kernel
theorem dX11_voids_27 : decode cX11_voids 27 = .ok (.bipush (-3), 2) := by decide +kernel
theorem dX11_voids_29 : decode cX11_voids 29 = .ok (.ireturn, 1) := by decide +kernel
theorem dX11_voids_30 : decode cX11_voids 30 = .ok (.aload_n 0, 1) := by decide +kernel
theorem dX11_voids_31 : decode cX11_voids 31 = .ok (.getfield 60, 3) := by decide +kernel
theorem dX11_voids_34 : decode cX11_voids 34 = .ok (.iload_n 1, 1) := by decide +kernel
theorem dX11_voids_35 : decode cX11_voids 35 = .ok (.aaload, 1) := by decide +kernel
theorem dX11_voids_36 : decode cX11_voids 36 = .ok (.iconst 5, 1) := by decide +kernel
theorem dX11_voids_37 : decode cX11_voids 37 = .ok (.aload_n 0, 1) := by decide +kernel
theorem dX11_voids_38 : decode cX11_voids 38 = .ok (.getfield 193, 3) := by decide +kernel
theorem dX11_voids_41 : decode cX11_voids 41 = .ok (.iastore, 1) := by decide +kernel
theorem dX11_voids_42 : decode cX11_voids 42 = .ok (.iconst 0, 1) := by decide +kernel
theorem dX11_voids_43 : decode cX11_voids 43 = .ok (.istore_n 2, 1) := by decide +kernel
theorem dX11_voids_44 : decode cX11_voids 44 = .ok (.iconst 0, 1) := by decide +kernel
theorem dX11_voids_45 : decode cX11_voids 45 = .ok (.istore_n 3, 1) := by decide +kernel
theorem dX11_voids_46 : decode cX11_voids 46 = .ok (.iload_n 3, 1) := by decide +kernel
theorem dX11_voids_47 : decode cX11_voids 47 = .ok (.aload_n 0, 1) := by decide +kernel
theorem dX11_voids_48 : decode cX11_voids 48 = .ok (.getfield 342, 3) := by decide +kernel
theorem dX11_voids_51 : decode cX11_voids 51 = .ok (.sipush 200, 3) := by decide +kernel
theorem dX11_voids_54 : decode cX11_voids 54 = .ok (.invokestatic 345, 3) := by decide +kernel
theorem dX11_voids_57 : decode cX11_voids 57 = .ok (.if_icmp .ge 41, 3) := by decide +kernel
theorem dX11_voids_60 : decode cX11_voids 60 = .ok (.iload_n 2, 1) := by decide +kernel
theorem dX11_voids_61 : decode cX11_voids 61 = .ok (.aload_n 0, 1) := by decide +kernel
theorem dX11_voids_62 : decode cX11_voids 62 = .ok (.getfield 86, 3) := by decide +kernel
theorem dX11_voids_65 : decode cX11_voids 65 = .ok (.iload_n 3, 1) := by decide +kernel
theorem dX11_voids_66 : decode cX11_voids 66 = .ok (.aaload, 1) := by decide +kernel
theorem dX11_voids_67 : decode cX11_voids 67 = .ok (.iconst 4, 1) := by decide +kernel
theorem dX11_voids_68 : decode cX11_voids 68 = .ok (.iaload, 1) := by decide +kernel
theorem dX11_voids_69 : decode cX11_voids 69 = .ok (.iload_n 1, 1) := by decide +kernel
theorem dX11_voids_70 : decode cX11_voids 70 = .ok (.if_icmp .eq 15, 3) := by decide +kernel
theorem dX11_voids_73 : decode cX11_voids 73 = .ok (.aload_n 0, 1) := by decide +kernel
theorem dX11_voids_74 : decode cX11_voids 74 = .ok (.getfield 86, 3) := by decide +kernel
theorem dX11_voids_77 : decode cX11_voids 77 = .ok (.iload_n 3, 1) := by decide +kernel
theorem dX11_voids_78 : decode cX11_voids 78 = .ok (.aaload, 1) := by decide +kernel
theorem dX11_voids_79 : decode cX11_voids 79 = .ok (.iconst 5, 1) := by decide +kernel
theorem dX11_voids_80 : decode cX11_voids 80 = .ok (.iaload, 1) := by decide +kernel
theorem dX11_voids_81 : decode cX11_voids 81 = .ok (.iload_n 1, 1) := by decide +kernel
theorem dX11_voids_82 : decode cX11_voids 82 = .ok (.if_icmp .ne 7, 3) := by decide +kernel
theorem dX11_voids_85 : decode cX11_voids 85 = .ok (.iconst 1, 1) := by decide +kernel
theorem dX11_voids_86 : decode cX11_voids 86 = .ok (.goto 4, 3) := by decide +kernel
theorem dX11_voids_89 : decode cX11_voids 89 = .ok (.iconst 0, 1) := by decide +kernel
theorem dX11_voids_90 : decode cX11_voids 90 = .ok (.iadd, 1) := by decide +kernel
theorem dX11_voids_91 : decode cX11_voids 91 = .ok (.istore_n 2, 1) := by decide +kernel
theorem dX11_voids_92 : decode cX11_voids 92 = .ok (.iinc 3 1, 3) := by decide +kernel
theorem dX11_voids_95 : decode cX11_voids 95 = .ok (.goto (-49), 3) := by decide +kernel
theorem dX11_voids_98 : decode cX11_voids 98 = .ok (.iload_n 2, 1) := by decide +kernel
theorem dX11_voids_99 : decode cX11_voids 99 = .ok (.ireturn, 1) := by decide +kernel
theorem dX11_isAsked_0 : decode cX11_isAsked 0 = .ok (.aload_n 0, 1) := by decide +kernel
theorem dX11_isAsked_1 : decode cX11_isAsked 1 = .ok (.iload_n 1, 1) := by decide +kernel
theorem dX11_isAsked_2 : decode cX11_isAsked 2 = .ok (.invokevirtual 181, 3) := by decide +kernel
theorem dX11_isAsked_5 : decode cX11_isAsked 5 = .ok (.ifCond .eq 26, 3) := by decide +kernel
theorem dX11_isAsked_8 : decode cX11_isAsked 8 = .ok (.iload_n 2, 1) := by decide +kernel
theorem dX11_isAsked_9 : decode cX11_isAsked 9 = .ok (.iconst 0, 1) := by decide +kernel
theorem dX11_isAsked_10 : decode cX11_isAsked 10 = .ok (.bipush 7, 2) := by decide +kernel
theorem dX11_isAsked_12 : decode cX11_isAsked 12 = .ok (.invokestatic 163, 3) := by decide +kernel
theorem dX11_isAsked_15 : decode cX11_isAsked 15 = .ok (.ifCond .eq 16, 3) := by decide +kernel
theorem dX11_isAsked_18 : decode cX11_isAsked 18 = .ok (.iload_n 3, 1) := by decide +kernel
theorem dX11_isAsked_19 : decode cX11_isAsked 19 = .ok (.ifCond .lt 12, 3) := by decide +kernel
theorem dX11_isAsked_22 : decode cX11_isAsked 22 = .ok (.iload 4, 2) := by decide +kernel
theorem dX11_isAsked_24 : decode cX11_isAsked 24 = .ok (.ifCond .lt 7, 3) := by decide +kernel
theorem dX11_isAsked_27 : decode cX11_isAsked 27 = .ok (.iconst 1, 1) := by decide +kernel
theorem dX11_isAsked_28 : decode cX11_isAsked 28 = .ok (.goto 4, 3) := by decide +kernel
theorem dX11_isAsked_31 : decode cX11_isAsked 31 = .ok (.iconst 0, 1) := by decide +kernel
theorem dX11_isAsked_32 : decode cX11_isAsked 32 = .ok (.ireturn, 1) := by decide +kernel
theorem dX11_value_0 : decode cX11_value 0 = .ok (.aload_n 0, 1) := by decide +kernel
theorem dX11_value_1 : decode cX11_value 1 = .ok (.iload_n 1, 1) := by decide +kernel
theorem dX11_value_2 : decode cX11_value 2 = .ok (.iload_n 2, 1) := by decide +kernel
theorem dX11_value_3 : decode cX11_value 3 = .ok (.iload_n 3, 1) := by decide +kernel
theorem dX11_value_4 : decode cX11_value 4 = .ok (.iload 4, 2) := by decide +kernel
theorem dX11_value_6 : decode cX11_value 6 = .ok (.invokevirtual 350, 3) := by decide +kernel
theorem dX11_value_9 : decode cX11_value 9 = .ok (.ifCond .eq 15, 3) := by decide +kernel
theorem dX11_value_12 : decode cX11_value 12 = .ok (.aload_n 0, 1) := by decide +kernel
theorem dX11_value_13 : decode cX11_value 13 = .ok (.iload_n 1, 1) := by decide +kernel
theorem dX11_value_14 : decode cX11_value 14 = .ok (.iload_n 2, 1) := by decide +kernel
theorem dX11_value_15 : decode cX11_value 15 = .ok (.iload_n 3, 1) := by decide +kernel
theorem dX11_value_16 : decode cX11_value 16 = .ok (.iload 4, 2) := by decide +kernel
theorem dX11_value_18 : decode cX11_value 18 = .ok (.invokevirtual 339, 3) := by decide +kernel
theorem dX11_value_21 : decode cX11_value 21 = .ok (.goto 5, 3) := by decide +kernel
theorem dX11_value_24 : decode cX11_value 24 = .ok (.bipush (-5), 2) := by decide +kernel
theorem dX11_value_26 : decode cX11_value 26 = .ok (.ireturn, 1) := by decide +kernel
theorem dX11_why_0 : decode cX11_why 0 = .ok (.aload_n 0, 1) := by decide +kernel
theorem dX11_why_1 : decode cX11_why 1 = .ok (.iload_n 1, 1) := by decide +kernel
theorem dX11_why_2 : decode cX11_why 2 = .ok (.iload_n 2, 1) := by decide +kernel
theorem dX11_why_3 : decode cX11_why 3 = .ok (.iload_n 3, 1) := by decide +kernel
theorem dX11_why_4 : decode cX11_why 4 = .ok (.iload 4, 2) := by decide +kernel
theorem dX11_why_6 : decode cX11_why 6 = .ok (.invokevirtual 350, 3) := by decide +kernel
theorem dX11_why_9 : decode cX11_why 9 = .ok (.ifCond .eq 15, 3) := by decide +kernel
theorem dX11_why_12 : decode cX11_why 12 = .ok (.aload_n 0, 1) := by decide +kernel
theorem dX11_why_13 : decode cX11_why 13 = .ok (.iload_n 1, 1) := by decide +kernel
theorem dX11_why_14 : decode cX11_why 14 = .ok (.iload_n 2, 1) := by decide +kernel
theorem dX11_why_15 : decode cX11_why 15 = .ok (.iload_n 3, 1) := by decide +kernel
theorem dX11_why_16 : decode cX11_why 16 = .ok (.iload 4, 2) := by decide +kernel
theorem dX11_why_18 : decode cX11_why 18 = .ok (.invokevirtual 332, 3) := by decide +kernel
theorem dX11_why_21 : decode cX11_why 21 = .ok (.goto 5, 3) := by decide +kernel
theorem dX11_why_24 : decode cX11_why 24 = .ok (.bipush (-5), 2) := by decide +kernel
theorem dX11_why_26 : decode cX11_why 26 = .ok (.ireturn, 1) := by decide +kernel
theorem dX11_isSky_0 : decode cX11_isSky 0 = .ok (.iload_n 0, 1) := by decide +kernel
theorem dX11_isSky_1 : decode cX11_isSky 1 = .ok (.ifCond .ne 14, 3) := by decide +kernel
theorem dX11_isSky_4 : decode cX11_isSky 4 = .ok (.iload_n 1, 1) := by decide +kernel
theorem dX11_isSky_5 : decode cX11_isSky 5 = .ok (.bipush (-40), 2) := by decide +kernel
theorem dX11_isSky_7 : decode cX11_isSky 7 = .ok (.bipush 40, 2) := by decide +kernel
theorem dX11_isSky_9 : decode cX11_isSky 9 = .ok (.invokestatic 163, 3) := by decide +kernel
theorem dX11_isSky_12 : decode cX11_isSky 12 = .ok (.goto 11, 3) := by decide +kernel
theorem dX11_isSky_15 : decode cX11_isSky 15 = .ok (.iload_n 1, 1) := by decide +kernel
theorem dX11_isSky_16 : decode cX11_isSky 16 = .ok (.iconst 0, 1) := by decide +kernel
theorem dX11_isSky_17 : decode cX11_isSky 17 = .ok (.sipush 200, 3) := by decide +kernel
theorem dX11_isSky_20 : decode cX11_isSky 20 = .ok (.invokestatic 163, 3) := by decide +kernel
theorem dX11_isSky_23 : decode cX11_isSky 23 = .ok (.ireturn, 1) := by decide +kernel
theorem dX11_weather_0 : decode cX11_weather 0 = .ok (.iload_n 1, 1) := by decide +kernel
theorem dX11_weather_1 : decode cX11_weather 1 = .ok (.iconst 0, 1) := by decide +kernel
theorem dX11_weather_2 : decode cX11_weather 2 = .ok (.sipush 7199, 3) := by decide +kernel
theorem dX11_weather_5 : decode cX11_weather 5 = .ok (.invokestatic 163, 3) := by decide +kernel
theorem dX11_weather_8 : decode cX11_weather 8 = .ok (.ifCond .eq 12, 3) := by decide +kernel
theorem dX11_weather_11 : decode cX11_weather 11 = .ok (.iload_n 2, 1) := by decide +kernel
theorem dX11_weather_12 : decode cX11_weather 12 = .ok (.iconst 0, 1) := by decide +kernel
theorem dX11_weather_13 : decode cX11_weather 13 = .ok (.iconst 1, 1) := by decide +kernel
theorem dX11_weather_14 : decode cX11_weather 14 = .ok (.invokestatic 163, 3) := by decide +kernel
theorem dX11_weather_17 : decode cX11_weather 17 = .ok (.ifCond .ne 5, 3) := by decide +kernel
theorem dX11_weather_20 : decode cX11_weather 20 = .ok (.iconst (-1), 1) := by decide +kernel
theorem dX11_weather_21 : decode cX11_weather 21 = .ok (.ireturn, 1) := by decide +kernel
theorem dX11_weather_22 : decode cX11_weather 22 = .ok (.iload_n 2, 1) := by decide +kernel
theorem dX11_weather_23 : decode cX11_weather 23 = .ok (.iload_n 3, 1) := by decide +kernel
theorem dX11_weather_24 : decode cX11_weather 24 = .ok (.invokestatic 354, 3) := by decide +kernel
theorem dX11_weather_27 : decode cX11_weather 27 = .ok (.ifCond .ne 6, 3) := by decide +kernel
theorem dX11_weather_30 : decode cX11_weather 30 = .ok (.bipush (-2), 2) := by decide +kernel
theorem dX11_weather_32 : decode cX11_weather 32 = .ok (.ireturn, 1) := by decide +kernel
theorem dX11_weather_33 : decode cX11_weather 33 = .ok (.aload_n 0, 1) := by decide +kernel
theorem dX11_weather_34 : decode cX11_weather 34 = .ok (.getfield 66, 3) := by decide +kernel
theorem dX11_weather_37 : decode cX11_weather 37 = .ok (.iload_n 2, 1) := by decide +kernel
theorem dX11_weather_38 : decode cX11_weather 38 = .ok (.aaload, 1) := by decide +kernel
theorem dX11_weather_39 : decode cX11_weather 39 = .ok (.iload_n 1, 1) := by decide +kernel
theorem dX11_weather_40 : decode cX11_weather 40 = .ok (.iload_n 3, 1) := by decide +kernel
theorem dX11_weather_41 : decode cX11_weather 41 = .ok (.iastore, 1) := by decide +kernel
theorem dX11_weather_42 : decode cX11_weather 42 = .ok (.aload_n 0, 1) := by decide +kernel
theorem dX11_weather_43 : decode cX11_weather 43 = .ok (.getfield 71, 3) := by decide +kernel
theorem dX11_weather_46 : decode cX11_weather 46 = .ok (.iload_n 2, 1) := by decide +kernel
theorem dX11_weather_47 : decode cX11_weather 47 = .ok (.aaload, 1) := by decide +kernel
theorem dX11_weather_48 : decode cX11_weather 48 = .ok (.iload_n 1, 1) := by decide +kernel
theorem dX11_weather_49 : decode cX11_weather 49 = .ok (.iconst 1, 1) := by decide +kernel
theorem dX11_weather_50 : decode cX11_weather 50 = .ok (.bastore, 1) := by decide +kernel
theorem dX11_weather_51 : decode cX11_weather 51 = .ok (.iconst 1, 1) := by decide +kernel
theorem dX11_weather_52 : decode cX11_weather 52 = .ok (.ireturn, 1) := by decide +kernel
theorem dX11_sky_0 : decode cX11_sky 0 = .ok (.iload_n 1, 1) := by decide +kernel
theorem dX11_sky_1 : decode cX11_sky 1 = .ok (.iconst 0, 1) := by decide +kernel
theorem dX11_sky_2 : decode cX11_sky 2 = .ok (.sipush 7199, 3) := by decide +kernel
theorem dX11_sky_5 : decode cX11_sky 5 = .ok (.invokestatic 163, 3) := by decide +kernel
theorem dX11_sky_8 : decode cX11_sky 8 = .ok (.ifCond .eq 21, 3) := by decide +kernel
theorem dX11_sky_11 : decode cX11_sky 11 = .ok (.iload_n 2, 1) := by decide +kernel
theorem dX11_sky_12 : decode cX11_sky 12 = .ok (.iconst 0, 1) := by decide +kernel
theorem dX11_sky_13 : decode cX11_sky 13 = .ok (.iconst 1, 1) := by decide +kernel
theorem dX11_sky_14 : decode cX11_sky 14 = .ok (.invokestatic 163, 3) := by decide +kernel
theorem dX11_sky_17 : decode cX11_sky 17 = .ok (.ifCond .eq 12, 3) := by decide +kernel
theorem dX11_sky_20 : decode cX11_sky 20 = .ok (.iload_n 3, 1) := by decide +kernel
theorem dX11_sky_21 : decode cX11_sky 21 = .ok (.iconst 0, 1) := by decide +kernel
theorem dX11_sky_22 : decode cX11_sky 22 = .ok (.iconst 2, 1) := by decide +kernel
theorem dX11_sky_23 : decode cX11_sky 23 = .ok (.invokestatic 163, 3) := by decide +kernel
theorem dX11_sky_26 : decode cX11_sky 26 = .ok (.ifCond .ne 5, 3) := by decide +kernel
theorem dX11_sky_29 : decode cX11_sky 29 = .ok (.iconst (-1), 1) := by decide +kernel
theorem dX11_sky_30 : decode cX11_sky 30 = .ok (.ireturn, 1) := by decide +kernel
theorem dX11_sky_31 : decode cX11_sky 31 = .ok (.iload 5, 2) := by decide +kernel
theorem dX11_sky_33 : decode cX11_sky 33 = .ok (.ifCond .lt 13, 3) := by decide +kernel
theorem dX11_sky_36 : decode cX11_sky 36 = .ok (.iload 5, 2) := by decide +kernel
theorem dX11_sky_38 : decode cX11_sky 38 = .ok (.sipush 7200, 3) := by decide +kernel
theorem dX11_sky_41 : decode cX11_sky 41 = .ok (.iload_n 1, 1) := by decide +kernel
theorem dX11_sky_42 : decode cX11_sky 42 = .ok (.isub, 1) := by decide +kernel
theorem dX11_sky_43 : decode cX11_sky 43 = .ok (.if_icmp .le 6, 3) := by decide +kernel
theorem dX11_sky_46 : decode cX11_sky 46 = .ok (.bipush (-2), 2) := by decide +kernel
theorem dX11_sky_48 : decode cX11_sky 48 = .ok (.ireturn, 1) := by decide +kernel
theorem dX11_sky_49 : decode cX11_sky 49 = .ok (.iload 5, 2) := by decide +kernel
theorem dX11_sky_51 : decode cX11_sky 51 = .ok (.ifCond .ne 5, 3) := by decide +kernel
theorem dX11_sky_54 : decode cX11_sky 54 = .ok (.iconst 0, 1) := by decide +kernel
theorem dX11_sky_55 : decode cX11_sky 55 = .ok (.ireturn, 1) := by decide +kernel
theorem dX11_sky_56 : decode cX11_sky 56 = .ok (.aload_n 0, 1) := by decide +kernel
theorem dX11_sky_57 : decode cX11_sky 57 = .ok (.getfield 124, 3) := by decide +kernel
theorem dX11_sky_60 : decode cX11_sky 60 = .ok (.iload_n 3, 1) := by decide +kernel
theorem dX11_sky_61 : decode cX11_sky 61 = .ok (.iaload, 1) := by decide +kernel
theorem dX11_sky_62 : decode cX11_sky 62 = .ok (.iconst (-1), 1) := by decide +kernel
theorem dX11_sky_63 : decode cX11_sky 63 = .ok (.if_icmp .ne 6, 3) := by decide +kernel
theorem dX11_sky_66 : decode cX11_sky 66 = .ok (.bipush (-11), 2) := by decide +kernel
theorem dX11_sky_68 : decode cX11_sky 68 = .ok (.ireturn, 1) := by decide +kernel
theorem dX11_sky_69 : decode cX11_sky 69 = .ok (.aload_n 0, 1) := by decide +kernel
theorem dX11_sky_70 : decode cX11_sky 70 = .ok (.getfield 124, 3) := by decide +kernel
theorem dX11_sky_73 : decode cX11_sky 73 = .ok (.iload_n 3, 1) := by decide +kernel
theorem dX11_sky_74 : decode cX11_sky 74 = .ok (.iaload, 1) := by decide +kernel
theorem dX11_sky_75 : decode cX11_sky 75 = .ok (.iconst 2, 1) := by decide +kernel
theorem dX11_sky_76 : decode cX11_sky 76 = .ok (.if_icmp .eq 6, 3) := by decide +kernel
theorem dX11_sky_79 : decode cX11_sky 79 = .ok (.bipush (-13), 2) := by decide +kernel
theorem dX11_sky_81 : decode cX11_sky 81 = .ok (.ireturn, 1) := by decide +kernel
theorem dX11_sky_82 : decode cX11_sky 82 = .ok (.iload 4, 2) := by decide +kernel
theorem dX11_sky_84 : decode cX11_sky 84 = .ok (.ifCond .lt 21, 3) := by decide +kernel
theorem dX11_sky_87 : decode cX11_sky 87 = .ok (.iload 4, 2) := by decide +kernel
theorem dX11_sky_89 : decode cX11_sky 89 = .ok (.i2l, 1) := by decide +kernel
theorem dX11_sky_90 : decode cX11_sky 90 = .ok (.iload 5, 2) := by decide +kernel
theorem dX11_sky_92 : decode cX11_sky 92 = .ok (.i2l, 1) := by decide +kernel
theorem dX11_sky_93 : decode cX11_sky 93 = .ok (.ladd, 1) := by decide +kernel
theorem dX11_sky_94 : decode cX11_sky 94 = .ok (.aload_n 0, 1) := by decide +kernel
theorem dX11_sky_95 : decode cX11_sky 95 = .ok (.getfield 127, 3) := by decide +kernel
theorem dX11_sky_98 : decode cX11_sky 98 = .ok (.iload_n 3, 1) := by decide +kernel
theorem dX11_sky_99 : decode cX11_sky 99 = .ok (.iaload, 1) := by decide +kernel
theorem dX11_sky_100 : decode cX11_sky 100 = .ok (.i2l, 1) := by decide +kernel
theorem dX11_sky_101 : decode cX11_sky 101 = .ok (.lcmp, 1) := by decide +kernel
theorem dX11_sky_102 : decode cX11_sky 102 = .ok (.ifCond .le 6, 3) := by decide +kernel
theorem dX11_sky_105 : decode cX11_sky 105 = .ok (.bipush (-12), 2) := by decide +kernel
theorem dX11_sky_107 : decode cX11_sky 107 = .ok (.ireturn, 1) := by decide +kernel
theorem dX11_sky_108 : decode cX11_sky 108 = .ok (.iconst 0, 1) := by decide +kernel
theorem dX11_sky_109 : decode cX11_sky 109 = .ok (.istore 6, 2) := by decide +kernel
theorem dX11_sky_111 : decode cX11_sky 111 = .ok (.iconst 0, 1) := by decide +kernel
theorem dX11_sky_112 : decode cX11_sky 112 = .ok (.istore 7, 2) := by decide +kernel
theorem dX11_sky_114 : decode cX11_sky 114 = .ok (.iload 7, 2) := by decide +kernel
theorem dX11_sky_116 : decode cX11_sky 116 = .ok (.iload 5, 2) := by decide +kernel
theorem dX11_sky_118 : decode cX11_sky 118 = .ok (.if_icmp .ge 77, 3) := by decide +kernel
theorem dX11_sky_121 : decode cX11_sky 121 = .ok (.aload_n 0, 1) := by decide +kernel
theorem dX11_sky_122 : decode cX11_sky 122 = .ok (.getfield 130, 3) := by decide +kernel
theorem dX11_sky_125 : decode cX11_sky 125 = .ok (.iload_n 3, 1) := by decide +kernel
theorem dX11_sky_126 : decode cX11_sky 126 = .ok (.aaload, 1) := by decide +kernel
theorem dX11_sky_127 : decode cX11_sky 127 = .ok (.iload 4, 2) := by decide +kernel
theorem dX11_sky_129 : decode cX11_sky 129 = .ok (.iload 7, 2) := by decide +kernel
theorem dX11_sky_131 : decode cX11_sky 131 = .ok (.iadd, 1) := by decide +kernel
theorem dX11_sky_132 : decode cX11_sky 132 = .ok (.iaload, 1) := by decide +kernel
theorem dX11_sky_133 : decode cX11_sky 133 = .ok (.iconst 4, 1) := by decide +kernel
theorem dX11_sky_134 : decode cX11_sky 134 = .ok (.idiv, 1) := by decide +kernel
theorem dX11_sky_135 : decode cX11_sky 135 = .ok (.istore 8, 2) := by decide +kernel
theorem dX11_sky_137 : decode cX11_sky 137 = .ok (.aload_n 0, 1) := by decide +kernel
theorem dX11_sky_138 : decode cX11_sky 138 = .ok (.getfield 133, 3) := by decide +kernel
theorem dX11_sky_141 : decode cX11_sky 141 = .ok (.iload_n 3, 1) := by decide +kernel
theorem dX11_sky_142 : decode cX11_sky 142 = .ok (.aaload, 1) := by decide +kernel
theorem dX11_sky_143 : decode cX11_sky 143 = .ok (.iload 4, 2) := by decide +kernel
theorem dX11_sky_145 : decode cX11_sky 145 = .ok (.iload 7, 2) := by decide +kernel
theorem dX11_sky_147 : decode cX11_sky 147 = .ok (.iadd, 1) := by decide +kernel
theorem dX11_sky_148 : decode cX11_sky 148 = .ok (.baload, 1) := by decide +kernel
theorem dX11_sky_149 : decode cX11_sky 149 = .ok (.ifCond .ne 40, 3) := by decide +kernel
theorem dX11_sky_152 : decode cX11_sky 152 = .ok (.iload_n 2, 1) := by decide +kernel
theorem dX11_sky_153 : decode cX11_sky 153 = .ok (.iload 8, 2) := by decide +kernel
theorem dX11_sky_155 : decode cX11_sky 155 = .ok (.invokestatic 354, 3) := by decide +kernel
theorem dX11_sky_158 : decode cX11_sky 158 = .ok (.ifCond .eq 31, 3) := by decide +kernel
theorem dX11_sky_161 : decode cX11_sky 161 = .ok (.aload_n 0, 1) := by decide +kernel
theorem dX11_sky_162 : decode cX11_sky 162 = .ok (.getfield 66, 3) := by decide +kernel
theorem dX11_sky_165 : decode cX11_sky 165 = .ok (.iload_n 2, 1) := by decide +kernel
theorem dX11_sky_166 : decode cX11_sky 166 = .ok (.aaload, 1) := by decide +kernel
theorem dX11_sky_167 : decode cX11_sky 167 = .ok (.iload_n 1, 1) := by decide +kernel
theorem dX11_sky_168 : decode cX11_sky 168 = .ok (.iload 7, 2) := by decide +kernel
theorem dX11_sky_170 : decode cX11_sky 170 = .ok (.iadd, 1) := by decide +kernel
theorem dX11_sky_171 : decode cX11_sky 171 = .ok (.iload 8, 2) := by decide +kernel
theorem dX11_sky_173 : decode cX11_sky 173 = .ok (.iastore, 1) := by decide +kernel
theorem dX11_sky_174 : decode cX11_sky 174 = .ok (.aload_n 0, 1) := by decide +kernel
theorem dX11_sky_175 : decode cX11_sky 175 = .ok (.getfield 71, 3) := by decide +kernel
theorem dX11_sky_178 : decode cX11_sky 178 = .ok (.iload_n 2, 1) := by decide +kernel
theorem dX11_sky_179 : decode cX11_sky 179 = .ok (.aaload, 1) := by decide +kernel
theorem dX11_sky_180 : decode cX11_sky 180 = .ok (.iload_n 1, 1) := by decide +kernel
theorem dX11_sky_181 : decode cX11_sky 181 = .ok (.iload 7, 2) := by decide +kernel
theorem dX11_sky_183 : decode cX11_sky 183 = .ok (.iadd, 1) := by decide +kernel
theorem dX11_sky_184 : decode cX11_sky 184 = .ok (.iconst 1, 1) := by decide +kernel
theorem dX11_sky_185 : decode cX11_sky 185 = .ok (.bastore, 1) := by decide +kernel
theorem dX11_sky_186 : decode cX11_sky 186 = .ok (.iinc 6 1, 3) := by decide +kernel
theorem dX11_sky_189 : decode cX11_sky 189 = .ok (.iinc 7 1, 3) := by decide +kernel
theorem dX11_sky_192 : decode cX11_sky 192 = .ok (.goto (-78), 3) := by decide +kernel
theorem dX11_sky_195 : decode cX11_sky 195 = .ok (.iload 6, 2) := by decide +kernel
theorem dX11_sky_197 : decode cX11_sky 197 = .ok (.ireturn, 1) := by decide +kernel
theorem dX11_skyAt_0 : decode cX11_skyAt 0 = .ok (.iload_n 1, 1) := by decide +kernel
theorem dX11_skyAt_1 : decode cX11_skyAt 1 = .ok (.istore_n 3, 1) := by decide +kernel
theorem dX11_skyAt_2 : decode cX11_skyAt 2 = .ok (.iload_n 3, 1) := by decide +kernel
theorem dX11_skyAt_3 : decode cX11_skyAt 3 = .ok (.ifCond .lt 29, 3) := by decide +kernel
theorem dX11_skyAt_6 : decode cX11_skyAt 6 = .ok (.aload_n 0, 1) := by decide +kernel
theorem dX11_skyAt_7 : decode cX11_skyAt 7 = .ok (.getfield 71, 3) := by decide +kernel
theorem dX11_skyAt_10 : decode cX11_skyAt 10 = .ok (.iload_n 2, 1) := by decide +kernel
theorem dX11_skyAt_11 : decode cX11_skyAt 11 = .ok (.aaload, 1) := by decide +kernel
theorem dX11_skyAt_12 : decode cX11_skyAt 12 = .ok (.iload_n 3, 1) := by decide +kernel
theorem dX11_skyAt_13 : decode cX11_skyAt 13 = .ok (.baload, 1) := by decide +kernel
theorem dX11_skyAt_14 : decode cX11_skyAt 14 = .ok (.ifCond .eq 12, 3) := by decide +kernel
theorem dX11_skyAt_17 : decode cX11_skyAt 17 = .ok (.aload_n 0, 1) := by decide +kernel
theorem dX11_skyAt_18 : decode cX11_skyAt 18 = .ok (.getfield 66, 3) := by decide +kernel
theorem dX11_skyAt_21 : decode cX11_skyAt 21 = .ok (.iload_n 2, 1) := by decide +kernel
theorem dX11_skyAt_22 : decode cX11_skyAt 22 = .ok (.aaload, 1) := by decide +kernel
theorem dX11_skyAt_23 : decode cX11_skyAt 23 = .ok (.iload_n 3, 1) := by decide +kernel
theorem dX11_skyAt_24 : decode cX11_skyAt 24 = .ok (.iaload, 1) := by decide +kernel
theorem dX11_skyAt_25 : decode cX11_skyAt 25 = .ok (.ireturn, 1) := by decide +kernel
theorem dX11_skyAt_26 : decode cX11_skyAt 26 = .ok (.iinc 3 (-1), 3) := by decide +kernel
theorem dX11_skyAt_29 : decode cX11_skyAt 29 = .ok (.goto (-27), 3) := by decide +kernel
theorem dX11_skyAt_32 : decode cX11_skyAt 32 = .ok (.iload_n 2, 1) := by decide +kernel
theorem dX11_skyAt_33 : decode cX11_skyAt 33 = .ok (.ifCond .ne 7, 3) := by decide +kernel
theorem dX11_skyAt_36 : decode cX11_skyAt 36 = .ok (.iconst 5, 1) := by decide +kernel
theorem dX11_skyAt_37 : decode cX11_skyAt 37 = .ok (.goto 4, 3) := by decide +kernel
theorem dX11_skyAt_40 : decode cX11_skyAt 40 = .ok (.iconst 0, 1) := by decide +kernel
theorem dX11_skyAt_41 : decode cX11_skyAt 41 = .ok (.ireturn, 1) := by decide +kernel
theorem dX11_skyOf_0 : decode cX11_skyOf 0 = .ok (.iload_n 1, 1) := by decide +kernel
theorem dX11_skyOf_1 : decode cX11_skyOf 1 = .ok (.iconst 0, 1) := by decide +kernel
theorem dX11_skyOf_2 : decode cX11_skyOf 2 = .ok (.sipush 7199, 3) := by decide +kernel
theorem dX11_skyOf_5 : decode cX11_skyOf 5 = .ok (.invokestatic 163, 3) := by decide +kernel
theorem dX11_skyOf_8 : decode cX11_skyOf 8 = .ok (.ifCond .eq 21, 3) := by decide +kernel
theorem dX11_skyOf_11 : decode cX11_skyOf 11 = .ok (.iload_n 2, 1) := by decide +kernel
theorem dX11_skyOf_12 : decode cX11_skyOf 12 = .ok (.iconst 0, 1) := by decide +kernel
theorem dX11_skyOf_13 : decode cX11_skyOf 13 = .ok (.iconst 1, 1) := by decide +kernel
theorem dX11_skyOf_14 : decode cX11_skyOf 14 = .ok (.invokestatic 163, 3) := by decide +kernel
theorem dX11_skyOf_17 : decode cX11_skyOf 17 = .ok (.ifCond .eq 12, 3) := by decide +kernel
theorem dX11_skyOf_20 : decode cX11_skyOf 20 = .ok (.aload_n 0, 1) := by decide +kernel
theorem dX11_skyOf_21 : decode cX11_skyOf 21 = .ok (.iload_n 1, 1) := by decide +kernel
theorem dX11_skyOf_22 : decode cX11_skyOf 22 = .ok (.iload_n 2, 1) := by decide +kernel
theorem dX11_skyOf_23 : decode cX11_skyOf 23 = .ok (.invokevirtual 357, 3) := by decide +kernel
theorem dX11_skyOf_26 : decode cX11_skyOf 26 = .ok (.goto 6, 3) := by decide +kernel
theorem dX11_skyOf_29 : decode cX11_skyOf 29 = .ok (.sipush (-1000), 3) := by decide +kernel
theorem dX11_skyOf_32 : decode cX11_skyOf 32 = .ok (.ireturn, 1) := by decide +kernel
theorem dX11_alp_0 : decode cX11_alp 0 = .ok (.iload_n 1, 1) := by decide +kernel
theorem dX11_alp_1 : decode cX11_alp 1 = .ok (.iconst 0, 1) := by decide +kernel
theorem dX11_alp_2 : decode cX11_alp 2 = .ok (.iconst 3, 1) := by decide +kernel
theorem dX11_alp_3 : decode cX11_alp 3 = .ok (.invokestatic 163, 3) := by decide +kernel
theorem dX11_alp_6 : decode cX11_alp 6 = .ok (.ifCond .eq 13, 3) := by decide +kernel
theorem dX11_alp_9 : decode cX11_alp 9 = .ok (.iload_n 2, 1) := by decide +kernel
theorem dX11_alp_10 : decode cX11_alp 10 = .ok (.iconst 1, 1) := by decide +kernel
theorem dX11_alp_11 : decode cX11_alp 11 = .ok (.bipush 99, 2) := by decide +kernel
theorem dX11_alp_13 : decode cX11_alp 13 = .ok (.invokestatic 163, 3) := by decide +kernel
theorem dX11_alp_16 : decode cX11_alp 16 = .ok (.ifCond .ne 6, 3) := by decide +kernel
theorem dX11_alp_19 : decode cX11_alp 19 = .ok (.bipush (-2), 2) := by decide +kernel
theorem dX11_alp_21 : decode cX11_alp 21 = .ok (.ireturn, 1) := by decide +kernel
theorem dX11_alp_22 : decode cX11_alp 22 = .ok (.aload_n 0, 1) := by decide +kernel
theorem dX11_alp_23 : decode cX11_alp 23 = .ok (.getfield 170, 3) := by decide +kernel
theorem dX11_alp_26 : decode cX11_alp 26 = .ok (.iconst 4, 1) := by decide +kernel
theorem dX11_alp_27 : decode cX11_alp 27 = .ok (.if_icmp .ne 6, 3) := by decide +kernel
theorem dX11_alp_30 : decode cX11_alp 30 = .ok (.bipush (-4), 2) := by decide +kernel
theorem dX11_alp_32 : decode cX11_alp 32 = .ok (.ireturn, 1) := by decide +kernel
theorem dX11_alp_33 : decode cX11_alp 33 = .ok (.aload_n 0, 1) := by decide +kernel
theorem dX11_alp_34 : decode cX11_alp 34 = .ok (.getfield 74, 3) := by decide +kernel
theorem dX11_alp_37 : decode cX11_alp 37 = .ok (.aload_n 0, 1) := by decide +kernel
theorem dX11_alp_38 : decode cX11_alp 38 = .ok (.getfield 170, 3) := by decide +kernel
theorem dX11_alp_41 : decode cX11_alp 41 = .ok (.iload_n 1, 1) := by decide +kernel
theorem dX11_alp_42 : decode cX11_alp 42 = .ok (.iastore, 1) := by decide +kernel
theorem dX11_alp_43 : decode cX11_alp 43 = .ok (.aload_n 0, 1) := by decide +kernel
theorem dX11_alp_44 : decode cX11_alp 44 = .ok (.getfield 77, 3) := by decide +kernel
theorem dX11_alp_47 : decode cX11_alp 47 = .ok (.aload_n 0, 1) := by decide +kernel
theorem dX11_alp_48 : decode cX11_alp 48 = .ok (.getfield 170, 3) := by decide +kernel
theorem dX11_alp_51 : decode cX11_alp 51 = .ok (.iload_n 2, 1) := by decide +kernel
theorem dX11_alp_52 : decode cX11_alp 52 = .ok (.iastore, 1) := by decide +kernel
theorem dX11_alp_53 : decode cX11_alp 53 = .ok (.aload_n 0, 1) := by decide +kernel
theorem dX11_alp_54 : decode cX11_alp 54 = .ok (.dup, 1) := by decide +kernel
theorem dX11_alp_55 : decode cX11_alp 55 = .ok (.getfield 170, 3) := by decide +kernel
theorem dX11_alp_58 : decode cX11_alp 58 = .ok (.dup_x1, 1) := by decide +kernel
theorem dX11_alp_59 : decode cX11_alp 59 = .ok (.iconst 1, 1) := by decide +kernel
theorem dX11_alp_60 : decode cX11_alp 60 = .ok (.iadd, 1) := by decide +kernel
theorem dX11_alp_61 : decode cX11_alp 61 = .ok (.putfield 170, 3) := by decide +kernel
theorem dX11_alp_64 : decode cX11_alp 64 = .ok (.ireturn, 1) := by decide +kernel
theorem dX11_cowsOn_0 : decode cX11_cowsOn 0 = .ok (.iconst 0, 1) := by decide +kernel
theorem dX11_cowsOn_1 : decode cX11_cowsOn 1 = .ok (.istore_n 2, 1) := by decide +kernel
theorem dX11_cowsOn_2 : decode cX11_cowsOn 2 = .ok (.iconst 0, 1) := by decide +kernel
theorem dX11_cowsOn_3 : decode cX11_cowsOn 3 = .ok (.istore_n 3, 1) := by decide +kernel
theorem dX11_cowsOn_4 : decode cX11_cowsOn 4 = .ok (.iload_n 3, 1) := by decide +kernel
theorem dX11_cowsOn_5 : decode cX11_cowsOn 5 = .ok (.aload_n 0, 1) := by decide +kernel
theorem dX11_cowsOn_6 : decode cX11_cowsOn 6 = .ok (.getfield 160, 3) := by decide +kernel
theorem dX11_cowsOn_9 : decode cX11_cowsOn 9 = .ok (.if_icmp .ge 20, 3) := by decide +kernel
theorem dX11_cowsOn_12 : decode cX11_cowsOn 12 = .ok (.iload_n 2, 1) := by decide +kernel
theorem dX11_cowsOn_13 : decode cX11_cowsOn 13 = .ok (.aload_n 0, 1) := by decide +kernel
theorem dX11_cowsOn_14 : decode cX11_cowsOn 14 = .ok (.getfield 39, 3) := by decide +kernel
theorem dX11_cowsOn_17 : decode cX11_cowsOn 17 = .ok (.iload_n 1, 1) := by decide +kernel
theorem dX11_cowsOn_18 : decode cX11_cowsOn 18 = .ok (.aaload, 1) := by decide +kernel
theorem dX11_cowsOn_19 : decode cX11_cowsOn 19 = .ok (.iload_n 3, 1) := by decide +kernel
theorem dX11_cowsOn_20 : decode cX11_cowsOn 20 = .ok (.iaload, 1) := by decide +kernel
theorem dX11_cowsOn_21 : decode cX11_cowsOn 21 = .ok (.iadd, 1) := by decide +kernel
theorem dX11_cowsOn_22 : decode cX11_cowsOn 22 = .ok (.istore_n 2, 1) := by decide +kernel
theorem dX11_cowsOn_23 : decode cX11_cowsOn 23 = .ok (.iinc 3 1, 3) := by decide +kernel
theorem dX11_cowsOn_26 : decode cX11_cowsOn 26 = .ok (.goto (-22), 3) := by decide +kernel
theorem dX11_cowsOn_29 : decode cX11_cowsOn 29 = .ok (.iload_n 2, 1) := by decide +kernel
theorem dX11_cowsOn_30 : decode cX11_cowsOn 30 = .ok (.ireturn, 1) := by decide +kernel
theorem dX11_alpOf_0 : decode cX11_alpOf 0 = .ok (.aload_n 0, 1) := by decide +kernel
theorem dX11_alpOf_1 : decode cX11_alpOf 1 = .ok (.iload_n 1, 1) := by decide +kernel
theorem dX11_alpOf_2 : decode cX11_alpOf 2 = .ok (.invokevirtual 360, 3) := by decide +kernel
theorem dX11_alpOf_5 : decode cX11_alpOf 5 = .ok (.ifCond .ne 6, 3) := by decide +kernel
theorem dX11_alpOf_8 : decode cX11_alpOf 8 = .ok (.bipush (-5), 2) := by decide +kernel
theorem dX11_alpOf_10 : decode cX11_alpOf 10 = .ok (.ireturn, 1) := by decide +kernel
theorem dX11_alpOf_11 : decode cX11_alpOf 11 = .ok (.iload_n 2, 1) := by decide +kernel
theorem dX11_alpOf_12 : decode cX11_alpOf 12 = .ok (.tableswitch 70 0 4 #[36, 43, 50, 57, 64], 36) := by decide +kernel
theorem dX11_alpOf_48 : decode cX11_alpOf 48 = .ok (.aload_n 0, 1) := by decide +kernel
theorem dX11_alpOf_49 : decode cX11_alpOf 49 = .ok (.getfield 74, 3) := by decide +kernel
theorem dX11_alpOf_52 : decode cX11_alpOf 52 = .ok (.iload_n 1, 1) := by decide +kernel
theorem dX11_alpOf_53 : decode cX11_alpOf 53 = .ok (.iaload, 1) := by decide +kernel
theorem dX11_alpOf_54 : decode cX11_alpOf 54 = .ok (.ireturn, 1) := by decide +kernel
theorem dX11_alpOf_55 : decode cX11_alpOf 55 = .ok (.aload_n 0, 1) := by decide +kernel
theorem dX11_alpOf_56 : decode cX11_alpOf 56 = .ok (.getfield 77, 3) := by decide +kernel
theorem dX11_alpOf_59 : decode cX11_alpOf 59 = .ok (.iload_n 1, 1) := by decide +kernel
theorem dX11_alpOf_60 : decode cX11_alpOf 60 = .ok (.iaload, 1) := by decide +kernel
theorem dX11_alpOf_61 : decode cX11_alpOf 61 = .ok (.ireturn, 1) := by decide +kernel
theorem dX11_alpOf_62 : decode cX11_alpOf 62 = .ok (.aload_n 0, 1) := by decide +kernel
theorem dX11_alpOf_63 : decode cX11_alpOf 63 = .ok (.getfield 80, 3) := by decide +kernel
theorem dX11_alpOf_66 : decode cX11_alpOf 66 = .ok (.iload_n 1, 1) := by decide +kernel
theorem dX11_alpOf_67 : decode cX11_alpOf 67 = .ok (.iaload, 1) := by decide +kernel
theorem dX11_alpOf_68 : decode cX11_alpOf 68 = .ok (.ireturn, 1) := by decide +kernel
theorem dX11_alpOf_69 : decode cX11_alpOf 69 = .ok (.aload_n 0, 1) := by decide +kernel
theorem dX11_alpOf_70 : decode cX11_alpOf 70 = .ok (.getfield 83, 3) := by decide +kernel
theorem dX11_alpOf_73 : decode cX11_alpOf 73 = .ok (.iload_n 1, 1) := by decide +kernel
theorem dX11_alpOf_74 : decode cX11_alpOf 74 = .ok (.iaload, 1) := by decide +kernel
theorem dX11_alpOf_75 : decode cX11_alpOf 75 = .ok (.ireturn, 1) := by decide +kernel
theorem dX11_alpOf_76 : decode cX11_alpOf 76 = .ok (.aload_n 0, 1) := by decide +kernel
theorem dX11_alpOf_77 : decode cX11_alpOf 77 = .ok (.iload_n 1, 1) := by decide +kernel
theorem dX11_alpOf_78 : decode cX11_alpOf 78 = .ok (.invokevirtual 363, 3) := by decide +kernel
theorem dX11_alpOf_81 : decode cX11_alpOf 81 = .ok (.ireturn, 1) := by decide +kernel
theorem dX11_alpOf_82 : decode cX11_alpOf 82 = .ok (.aload_n 0, 1) := by decide +kernel
theorem dX11_alpOf_83 : decode cX11_alpOf 83 = .ok (.iload_n 2, 1) := by decide +kernel
theorem dX11_alpOf_84 : decode cX11_alpOf 84 = .ok (.iconst 5, 1) := by decide +kernel
theorem dX11_alpOf_85 : decode cX11_alpOf 85 = .ok (.isub, 1) := by decide +kernel
theorem dX11_alpOf_86 : decode cX11_alpOf 86 = .ok (.invokevirtual 181, 3) := by decide +kernel
theorem dX11_alpOf_89 : decode cX11_alpOf 89 = .ok (.ifCond .eq 21, 3) := by decide +kernel
theorem dX11_alpOf_92 : decode cX11_alpOf 92 = .ok (.iload_n 2, 1) := by decide +kernel
theorem dX11_alpOf_93 : decode cX11_alpOf 93 = .ok (.iconst 5, 1) := by decide +kernel
theorem dX11_alpOf_94 : decode cX11_alpOf 94 = .ok (.if_icmp .lt 16, 3) := by decide +kernel
theorem dX11_alpOf_97 : decode cX11_alpOf 97 = .ok (.aload_n 0, 1) := by decide +kernel
theorem dX11_alpOf_98 : decode cX11_alpOf 98 = .ok (.getfield 39, 3) := by decide +kernel
theorem dX11_alpOf_101 : decode cX11_alpOf 101 = .ok (.iload_n 1, 1) := by decide +kernel
theorem dX11_alpOf_102 : decode cX11_alpOf 102 = .ok (.aaload, 1) := by decide +kernel
theorem dX11_alpOf_103 : decode cX11_alpOf 103 = .ok (.iload_n 2, 1) := by decide +kernel
theorem dX11_alpOf_104 : decode cX11_alpOf 104 = .ok (.iconst 5, 1) := by decide +kernel
theorem dX11_alpOf_105 : decode cX11_alpOf 105 = .ok (.isub, 1) := by decide +kernel
theorem dX11_alpOf_106 : decode cX11_alpOf 106 = .ok (.iaload, 1) := by decide +kernel
theorem dX11_alpOf_107 : decode cX11_alpOf 107 = .ok (.goto 5, 3) := by decide +kernel
theorem dX11_alpOf_110 : decode cX11_alpOf 110 = .ok (.bipush (-5), 2) := by decide +kernel
theorem dX11_alpOf_112 : decode cX11_alpOf 112 = .ok (.ireturn, 1) := by decide +kernel
theorem dX11_whyNot_0 : decode cX11_whyNot 0 = .ok (.aload_n 0, 1) := by decide +kernel
theorem dX11_whyNot_1 : decode cX11_whyNot 1 = .ok (.getfield 193, 3) := by decide +kernel
theorem dX11_whyNot_4 : decode cX11_whyNot 4 = .ok (.sipush 360, 3) := by decide +kernel
theorem dX11_whyNot_7 : decode cX11_whyNot 7 = .ok (.irem, 1) := by decide +kernel
theorem dX11_whyNot_8 : decode cX11_whyNot 8 = .ok (.istore_n 3, 1) := by decide +kernel
theorem dX11_whyNot_9 : decode cX11_whyNot 9 = .ok (.aload_n 0, 1) := by decide +kernel
theorem dX11_whyNot_10 : decode cX11_whyNot 10 = .ok (.getfield 9, 3) := by decide +kernel
theorem dX11_whyNot_13 : decode cX11_whyNot 13 = .ok (.iload_n 1, 1) := by decide +kernel
theorem dX11_whyNot_14 : decode cX11_whyNot 14 = .ok (.aaload, 1) := by decide +kernel
theorem dX11_whyNot_15 : decode cX11_whyNot 15 = .ok (.iconst 2, 1) := by decide +kernel
theorem dX11_whyNot_16 : decode cX11_whyNot 16 = .ok (.iaload, 1) := by decide +kernel
theorem dX11_whyNot_17 : decode cX11_whyNot 17 = .ok (.aload_n 0, 1) := by decide +kernel
theorem dX11_whyNot_18 : decode cX11_whyNot 18 = .ok (.iload_n 1, 1) := by decide +kernel
theorem dX11_whyNot_19 : decode cX11_whyNot 19 = .ok (.invokevirtual 185, 3) := by decide +kernel
theorem dX11_whyNot_22 : decode cX11_whyNot 22 = .ok (.isub, 1) := by decide +kernel
theorem dX11_whyNot_23 : decode cX11_whyNot 23 = .ok (.iload_n 2, 1) := by decide +kernel
theorem dX11_whyNot_24 : decode cX11_whyNot 24 = .ok (.if_icmp .ge 5, 3) := by decide +kernel
theorem dX11_whyNot_27 : decode cX11_whyNot 27 = .ok (.iconst 1, 1) := by decide +kernel
theorem dX11_whyNot_28 : decode cX11_whyNot 28 = .ok (.ireturn, 1) := by decide +kernel
theorem dX11_whyNot_29 : decode cX11_whyNot 29 = .ok (.iload_n 3, 1) := by decide +kernel
theorem dX11_whyNot_30 : decode cX11_whyNot 30 = .ok (.aload_n 0, 1) := by decide +kernel
theorem dX11_whyNot_31 : decode cX11_whyNot 31 = .ok (.iload_n 1, 1) := by decide +kernel
theorem dX11_whyNot_32 : decode cX11_whyNot 32 = .ok (.iconst 2, 1) := by decide +kernel
theorem dX11_whyNot_33 : decode cX11_whyNot 33 = .ok (.invokevirtual 366, 3) := by decide +kernel
theorem dX11_whyNot_36 : decode cX11_whyNot 36 = .ok (.if_icmp .lt 13, 3) := by decide +kernel
theorem dX11_whyNot_39 : decode cX11_whyNot 39 = .ok (.iload_n 3, 1) := by decide +kernel
theorem dX11_whyNot_40 : decode cX11_whyNot 40 = .ok (.aload_n 0, 1) := by decide +kernel
theorem dX11_whyNot_41 : decode cX11_whyNot 41 = .ok (.iload_n 1, 1) := by decide +kernel
theorem dX11_whyNot_42 : decode cX11_whyNot 42 = .ok (.iconst 3, 1) := by decide +kernel
theorem dX11_whyNot_43 : decode cX11_whyNot 43 = .ok (.invokevirtual 366, 3) := by decide +kernel
theorem dX11_whyNot_46 : decode cX11_whyNot 46 = .ok (.if_icmp .lt 5, 3) := by decide +kernel
theorem dX11_whyNot_49 : decode cX11_whyNot 49 = .ok (.iconst 2, 1) := by decide +kernel
theorem dX11_whyNot_50 : decode cX11_whyNot 50 = .ok (.ireturn, 1) := by decide +kernel
theorem dX11_whyNot_51 : decode cX11_whyNot 51 = .ok (.aload_n 0, 1) := by decide +kernel
theorem dX11_whyNot_52 : decode cX11_whyNot 52 = .ok (.iload_n 1, 1) := by decide +kernel
theorem dX11_whyNot_53 : decode cX11_whyNot 53 = .ok (.invokevirtual 185, 3) := by decide +kernel
theorem dX11_whyNot_56 : decode cX11_whyNot 56 = .ok (.iload_n 2, 1) := by decide +kernel
theorem dX11_whyNot_57 : decode cX11_whyNot 57 = .ok (.iadd, 1) := by decide +kernel
theorem dX11_whyNot_58 : decode cX11_whyNot 58 = .ok (.istore 4, 2) := by decide +kernel
theorem dX11_whyNot_60 : decode cX11_whyNot 60 = .ok (.iload 4, 2) := by decide +kernel
theorem dX11_whyNot_62 : decode cX11_whyNot 62 = .ok (.i2l, 1) := by decide +kernel
theorem dX11_whyNot_63 : decode cX11_whyNot 63 = .ok (.aload_n 0, 1) := by decide +kernel
theorem dX11_whyNot_64 : decode cX11_whyNot 64 = .ok (.iload_n 1, 1) := by decide +kernel
theorem dX11_whyNot_65 : decode cX11_whyNot 65 = .ok (.iconst 1, 1) := by decide +kernel
theorem dX11_whyNot_66 : decode cX11_whyNot 66 = .ok (.invokevirtual 366, 3) := by decide +kernel
theorem dX11_whyNot_69 : decode cX11_whyNot 69 = .ok (.i2l, 1) := by decide +kernel
theorem dX11_whyNot_70 : decode cX11_whyNot 70 = .ok (.lmul, 1) := by decide +kernel
theorem dX11_whyNot_71 : decode cX11_whyNot 71 = .ok (.aload_n 0, 1) := by decide +kernel
theorem dX11_whyNot_72 : decode cX11_whyNot 72 = .ok (.iload_n 1, 1) := by decide +kernel
theorem dX11_whyNot_73 : decode cX11_whyNot 73 = .ok (.iconst 0, 1) := by decide +kernel
theorem dX11_whyNot_74 : decode cX11_whyNot 74 = .ok (.invokevirtual 208, 3) := by decide +kernel
theorem dX11_whyNot_77 : decode cX11_whyNot 77 = .ok (.i2l, 1) := by decide +kernel
theorem dX11_whyNot_78 : decode cX11_whyNot 78 = .ok (.lcmp, 1) := by decide +kernel
theorem dX11_whyNot_79 : decode cX11_whyNot 79 = .ok (.ifCond .le 5, 3) := by decide +kernel
theorem dX11_whyNot_82 : decode cX11_whyNot 82 = .ok (.iconst 3, 1) := by decide +kernel
theorem dX11_whyNot_83 : decode cX11_whyNot 83 = .ok (.ireturn, 1) := by decide +kernel
theorem dX11_whyNot_84 : decode cX11_whyNot 84 = .ok (.aload_n 0, 1) := by decide +kernel
theorem dX11_whyNot_85 : decode cX11_whyNot 85 = .ok (.iload_n 1, 1) := by decide +kernel
theorem dX11_whyNot_86 : decode cX11_whyNot 86 = .ok (.iconst 0, 1) := by decide +kernel
theorem dX11_whyNot_87 : decode cX11_whyNot 87 = .ok (.invokevirtual 366, 3) := by decide +kernel
theorem dX11_whyNot_90 : decode cX11_whyNot 90 = .ok (.istore 5, 2) := by decide +kernel
theorem dX11_whyNot_92 : decode cX11_whyNot 92 = .ok (.iload 5, 2) := by decide +kernel
theorem dX11_whyNot_94 : decode cX11_whyNot 94 = .ok (.ifCond .le 21, 3) := by decide +kernel
theorem dX11_whyNot_97 : decode cX11_whyNot 97 = .ok (.iload 4, 2) := by decide +kernel
theorem dX11_whyNot_99 : decode cX11_whyNot 99 = .ok (.aload_n 0, 1) := by decide +kernel
theorem dX11_whyNot_100 : decode cX11_whyNot 100 = .ok (.getfield 27, 3) := by decide +kernel
theorem dX11_whyNot_103 : decode cX11_whyNot 103 = .ok (.iload_n 1, 1) := by decide +kernel
theorem dX11_whyNot_104 : decode cX11_whyNot 104 = .ok (.iaload, 1) := by decide +kernel
theorem dX11_whyNot_105 : decode cX11_whyNot 105 = .ok (.iload 5, 2) := by decide +kernel
theorem dX11_whyNot_107 : decode cX11_whyNot 107 = .ok (.idiv, 1) := by decide +kernel
theorem dX11_whyNot_108 : decode cX11_whyNot 108 = .ok (.if_icmp .le 7, 3) := by decide +kernel
theorem dX11_whyNot_111 : decode cX11_whyNot 111 = .ok (.iconst 4, 1) := by decide +kernel
theorem dX11_whyNot_112 : decode cX11_whyNot 112 = .ok (.goto 4, 3) := by decide +kernel
theorem dX11_whyNot_115 : decode cX11_whyNot 115 = .ok (.iconst 0, 1) := by decide +kernel
theorem dX11_whyNot_116 : decode cX11_whyNot 116 = .ok (.ireturn, 1) := by decide +kernel
theorem dX11_drive_0 : decode cX11_drive 0 = .ok (.aload_n 0, 1) := by decide +kernel
theorem dX11_drive_1 : decode cX11_drive 1 = .ok (.iload_n 1, 1) := by decide +kernel
theorem dX11_drive_2 : decode cX11_drive 2 = .ok (.invokevirtual 181, 3) := by decide +kernel
theorem dX11_drive_5 : decode cX11_drive 5 = .ok (.ifCond .eq 11, 3) := by decide +kernel
theorem dX11_drive_8 : decode cX11_drive 8 = .ok (.aload_n 0, 1) := by decide +kernel
theorem dX11_drive_9 : decode cX11_drive 9 = .ok (.iload_n 2, 1) := by decide +kernel
theorem dX11_drive_10 : decode cX11_drive 10 = .ok (.invokevirtual 360, 3) := by decide +kernel
theorem dX11_drive_13 : decode cX11_drive 13 = .ok (.ifCond .ne 5, 3) := by decide +kernel
theorem dX11_drive_16 : decode cX11_drive 16 = .ok (.iconst (-1), 1) := by decide +kernel
theorem dX11_drive_17 : decode cX11_drive 17 = .ok (.ireturn, 1) := by decide +kernel
theorem dX11_drive_18 : decode cX11_drive 18 = .ok (.iload_n 3, 1) := by decide +kernel
theorem dX11_drive_19 : decode cX11_drive 19 = .ok (.iconst 1, 1) := by decide +kernel
theorem dX11_drive_20 : decode cX11_drive 20 = .ok (.bipush 99, 2) := by decide +kernel
theorem dX11_drive_22 : decode cX11_drive 22 = .ok (.invokestatic 163, 3) := by decide +kernel
theorem dX11_drive_25 : decode cX11_drive 25 = .ok (.ifCond .ne 6, 3) := by decide +kernel
theorem dX11_drive_28 : decode cX11_drive 28 = .ok (.bipush (-2), 2) := by decide +kernel
theorem dX11_drive_30 : decode cX11_drive 30 = .ok (.ireturn, 1) := by decide +kernel
theorem dX11_drive_31 : decode cX11_drive 31 = .ok (.aload_n 0, 1) := by decide +kernel
theorem dX11_drive_32 : decode cX11_drive 32 = .ok (.iload_n 1, 1) := by decide +kernel
theorem dX11_drive_33 : decode cX11_drive 33 = .ok (.iload_n 3, 1) := by decide +kernel
theorem dX11_drive_34 : decode cX11_drive 34 = .ok (.invokevirtual 368, 3) := by decide +kernel
theorem dX11_drive_37 : decode cX11_drive 37 = .ok (.istore 4, 2) := by decide +kernel
theorem dX11_drive_39 : decode cX11_drive 39 = .ok (.iload 4, 2) := by decide +kernel
theorem dX11_drive_41 : decode cX11_drive 41 = .ok (.ifCond .le 9, 3) := by decide +kernel
theorem dX11_drive_44 : decode cX11_drive 44 = .ok (.bipush (-20), 2) := by decide +kernel
theorem dX11_drive_46 : decode cX11_drive 46 = .ok (.iload 4, 2) := by decide +kernel
theorem dX11_drive_48 : decode cX11_drive 48 = .ok (.isub, 1) := by decide +kernel
theorem dX11_drive_49 : decode cX11_drive 49 = .ok (.ireturn, 1) := by decide +kernel
theorem dX11_drive_50 : decode cX11_drive 50 = .ok (.aload_n 0, 1) := by decide +kernel
theorem dX11_drive_51 : decode cX11_drive 51 = .ok (.getfield 39, 3) := by decide +kernel
theorem dX11_drive_54 : decode cX11_drive 54 = .ok (.iload_n 2, 1) := by decide +kernel
theorem dX11_drive_55 : decode cX11_drive 55 = .ok (.aaload, 1) := by decide +kernel
theorem dX11_drive_56 : decode cX11_drive 56 = .ok (.iload_n 1, 1) := by decide +kernel
theorem dX11_drive_57 : decode cX11_drive 57 = .ok (.dup2, 1) := by decide +kernel
theorem dX11_drive_58 : decode cX11_drive 58 = .ok (.iaload, 1) := by decide +kernel
theorem dX11_drive_59 : decode cX11_drive 59 = .ok (.iload_n 3, 1) := by decide +kernel
theorem dX11_drive_60 : decode cX11_drive 60 = .ok (.iadd, 1) := by decide +kernel
theorem dX11_drive_61 : decode cX11_drive 61 = .ok (.iastore, 1) := by decide +kernel
theorem dX11_drive_62 : decode cX11_drive 62 = .ok (.aload_n 0, 1) := by decide +kernel
theorem dX11_drive_63 : decode cX11_drive 63 = .ok (.getfield 342, 3) := by decide +kernel
theorem dX11_drive_66 : decode cX11_drive 66 = .ok (.sipush 200, 3) := by decide +kernel
theorem dX11_drive_69 : decode cX11_drive 69 = .ok (.if_icmp .ge 73, 3) := by decide +kernel
theorem dX11_drive_72 : decode cX11_drive 72 = .ok (.aload_n 0, 1) := by decide +kernel
theorem dX11_drive_73 : decode cX11_drive 73 = .ok (.getfield 86, 3) := by decide +kernel
theorem dX11_drive_76 : decode cX11_drive 76 = .ok (.aload_n 0, 1) := by decide +kernel
theorem dX11_drive_77 : decode cX11_drive 77 = .ok (.getfield 342, 3) := by decide +kernel
theorem dX11_drive_80 : decode cX11_drive 80 = .ok (.aaload, 1) := by decide +kernel
theorem dX11_drive_81 : decode cX11_drive 81 = .ok (.astore 5, 2) := by decide +kernel
theorem dX11_drive_83 : decode cX11_drive 83 = .ok (.aload 5, 2) := by decide +kernel
theorem dX11_drive_85 : decode cX11_drive 85 = .ok (.iconst 0, 1) := by decide +kernel
theorem dX11_drive_86 : decode cX11_drive 86 = .ok (.aload_n 0, 1) := by decide +kernel
theorem dX11_drive_87 : decode cX11_drive 87 = .ok (.getfield 193, 3) := by decide +kernel
theorem dX11_drive_90 : decode cX11_drive 90 = .ok (.iastore, 1) := by decide +kernel
theorem dX11_drive_91 : decode cX11_drive 91 = .ok (.aload 5, 2) := by decide +kernel
theorem dX11_drive_93 : decode cX11_drive 93 = .ok (.iconst 1, 1) := by decide +kernel
theorem dX11_drive_94 : decode cX11_drive 94 = .ok (.iload_n 1, 1) := by decide +kernel
theorem dX11_drive_95 : decode cX11_drive 95 = .ok (.iastore, 1) := by decide +kernel
theorem dX11_drive_96 : decode cX11_drive 96 = .ok (.aload 5, 2) := by decide +kernel
theorem dX11_drive_98 : decode cX11_drive 98 = .ok (.iconst 2, 1) := by decide +kernel
theorem dX11_drive_99 : decode cX11_drive 99 = .ok (.iload_n 2, 1) := by decide +kernel
theorem dX11_drive_100 : decode cX11_drive 100 = .ok (.iastore, 1) := by decide +kernel
theorem dX11_drive_101 : decode cX11_drive 101 = .ok (.aload 5, 2) := by decide +kernel
theorem dX11_drive_103 : decode cX11_drive 103 = .ok (.iconst 3, 1) := by decide +kernel
theorem dX11_drive_104 : decode cX11_drive 104 = .ok (.iload_n 3, 1) := by decide +kernel
theorem dX11_drive_105 : decode cX11_drive 105 = .ok (.iastore, 1) := by decide +kernel
theorem dX11_drive_106 : decode cX11_drive 106 = .ok (.aload 5, 2) := by decide +kernel
theorem dX11_drive_108 : decode cX11_drive 108 = .ok (.iconst 4, 1) := by decide +kernel
theorem dX11_drive_109 : decode cX11_drive 109 = .ok (.aload_n 0, 1) := by decide +kernel
theorem dX11_drive_110 : decode cX11_drive 110 = .ok (.iload_n 1, 1) := by decide +kernel
theorem dX11_drive_111 : decode cX11_drive 111 = .ok (.iconst 1, 1) := by decide +kernel
theorem dX11_drive_112 : decode cX11_drive 112 = .ok (.aload_n 0, 1) := by decide +kernel
theorem dX11_drive_113 : decode cX11_drive 113 = .ok (.getfield 193, 3) := by decide +kernel
theorem dX11_drive_116 : decode cX11_drive 116 = .ok (.aload_n 0, 1) := by decide +kernel
theorem dX11_drive_117 : decode cX11_drive 117 = .ok (.getfield 193, 3) := by decide +kernel
theorem dX11_drive_120 : decode cX11_drive 120 = .ok (.invokevirtual 332, 3) := by decide +kernel
theorem dX11_drive_123 : decode cX11_drive 123 = .ok (.iastore, 1) := by decide +kernel
theorem dX11_drive_124 : decode cX11_drive 124 = .ok (.aload 5, 2) := by decide +kernel
theorem dX11_drive_126 : decode cX11_drive 126 = .ok (.iconst 5, 1) := by decide +kernel
theorem dX11_drive_127 : decode cX11_drive 127 = .ok (.aload_n 0, 1) := by decide +kernel
theorem dX11_drive_128 : decode cX11_drive 128 = .ok (.iload_n 1, 1) := by decide +kernel
theorem dX11_drive_129 : decode cX11_drive 129 = .ok (.iconst 0, 1) := by decide +kernel
theorem dX11_drive_130 : decode cX11_drive 130 = .ok (.aload_n 0, 1) := by decide +kernel
theorem dX11_drive_131 : decode cX11_drive 131 = .ok (.getfield 193, 3) := by decide +kernel
theorem dX11_drive_134 : decode cX11_drive 134 = .ok (.aload_n 0, 1) := by decide +kernel
theorem dX11_drive_135 : decode cX11_drive 135 = .ok (.getfield 193, 3) := by decide +kernel
theorem dX11_drive_138 : decode cX11_drive 138 = .ok (.invokevirtual 332, 3) := by decide +kernel
theorem dX11_drive_141 : decode cX11_drive 141 = .ok (.iastore, 1) := by decide +kernel
theorem dX11_drive_142 : decode cX11_drive 142 = .ok (.aload_n 0, 1) := by decide +kernel
theorem dX11_drive_143 : decode cX11_drive 143 = .ok (.dup, 1) := by decide +kernel
theorem dX11_drive_144 : decode cX11_drive 144 = .ok (.getfield 342, 3) := by decide +kernel
theorem dX11_drive_147 : decode cX11_drive 147 = .ok (.iconst 1, 1) := by decide +kernel
theorem dX11_drive_148 : decode cX11_drive 148 = .ok (.iadd, 1) := by decide +kernel
theorem dX11_drive_149 : decode cX11_drive 149 = .ok (.putfield 342, 3) := by decide +kernel
theorem dX11_drive_152 : decode cX11_drive 152 = .ok (.aload_n 0, 1) := by decide +kernel
theorem dX11_drive_153 : decode cX11_drive 153 = .ok (.getfield 39, 3) := by decide +kernel
theorem dX11_drive_156 : decode cX11_drive 156 = .ok (.iload_n 2, 1) := by decide +kernel
theorem dX11_drive_157 : decode cX11_drive 157 = .ok (.aaload, 1) := by decide +kernel
theorem dX11_drive_158 : decode cX11_drive 158 = .ok (.iload_n 1, 1) := by decide +kernel
theorem dX11_drive_159 : decode cX11_drive 159 = .ok (.iaload, 1) := by decide +kernel
theorem dX11_drive_160 : decode cX11_drive 160 = .ok (.ireturn, 1) := by decide +kernel
theorem dX11_home_0 : decode cX11_home 0 = .ok (.aload_n 0, 1) := by decide +kernel
theorem dX11_home_1 : decode cX11_home 1 = .ok (.iload_n 1, 1) := by decide +kernel
theorem dX11_home_2 : decode cX11_home 2 = .ok (.invokevirtual 181, 3) := by decide +kernel
theorem dX11_home_5 : decode cX11_home 5 = .ok (.ifCond .eq 11, 3) := by decide +kernel
theorem dX11_home_8 : decode cX11_home 8 = .ok (.aload_n 0, 1) := by decide +kernel
theorem dX11_home_9 : decode cX11_home 9 = .ok (.iload_n 2, 1) := by decide +kernel
theorem dX11_home_10 : decode cX11_home 10 = .ok (.invokevirtual 360, 3) := by decide +kernel
theorem dX11_home_13 : decode cX11_home 13 = .ok (.ifCond .ne 5, 3) := by decide +kernel
theorem dX11_home_16 : decode cX11_home 16 = .ok (.iconst (-1), 1) := by decide +kernel
theorem dX11_home_17 : decode cX11_home 17 = .ok (.ireturn, 1) := by decide +kernel
theorem dX11_home_18 : decode cX11_home 18 = .ok (.iload_n 3, 1) := by decide +kernel
theorem dX11_home_19 : decode cX11_home 19 = .ok (.iconst 1, 1) := by decide +kernel
theorem dX11_home_20 : decode cX11_home 20 = .ok (.bipush 99, 2) := by decide +kernel
theorem dX11_home_22 : decode cX11_home 22 = .ok (.invokestatic 163, 3) := by decide +kernel
theorem dX11_home_25 : decode cX11_home 25 = .ok (.ifCond .eq 15, 3) := by decide +kernel
theorem dX11_home_28 : decode cX11_home 28 = .ok (.iload_n 3, 1) := by decide +kernel
theorem dX11_home_29 : decode cX11_home 29 = .ok (.aload_n 0, 1) := by decide +kernel
theorem dX11_home_30 : decode cX11_home 30 = .ok (.getfield 39, 3) := by decide +kernel
theorem dX11_home_33 : decode cX11_home 33 = .ok (.iload_n 2, 1) := by decide +kernel
theorem dX11_home_34 : decode cX11_home 34 = .ok (.aaload, 1) := by decide +kernel
theorem dX11_home_35 : decode cX11_home 35 = .ok (.iload_n 1, 1) := by decide +kernel
theorem dX11_home_36 : decode cX11_home 36 = .ok (.iaload, 1) := by decide +kernel
theorem dX11_home_37 : decode cX11_home 37 = .ok (.if_icmp .le 6, 3) := by decide +kernel
theorem dX11_home_40 : decode cX11_home 40 = .ok (.bipush (-2), 2) := by decide +kernel
theorem dX11_home_42 : decode cX11_home 42 = .ok (.ireturn, 1) := by decide +kernel
theorem dX11_home_43 : decode cX11_home 43 = .ok (.aload_n 0, 1) := by decide +kernel
theorem dX11_home_44 : decode cX11_home 44 = .ok (.getfield 39, 3) := by decide +kernel
theorem dX11_home_47 : decode cX11_home 47 = .ok (.iload_n 2, 1) := by decide +kernel
theorem dX11_home_48 : decode cX11_home 48 = .ok (.aaload, 1) := by decide +kernel
theorem dX11_home_49 : decode cX11_home 49 = .ok (.iload_n 1, 1) := by decide +kernel
theorem dX11_home_50 : decode cX11_home 50 = .ok (.dup2, 1) := by decide +kernel
theorem dX11_home_51 : decode cX11_home 51 = .ok (.iaload, 1) := by decide +kernel
theorem dX11_home_52 : decode cX11_home 52 = .ok (.iload_n 3, 1) := by decide +kernel
theorem dX11_home_53 : decode cX11_home 53 = .ok (.isub, 1) := by decide +kernel
theorem dX11_home_54 : decode cX11_home 54 = .ok (.iastore, 1) := by decide +kernel
theorem dX11_home_55 : decode cX11_home 55 = .ok (.aload_n 0, 1) := by decide +kernel
theorem dX11_home_56 : decode cX11_home 56 = .ok (.getfield 39, 3) := by decide +kernel
theorem dX11_home_59 : decode cX11_home 59 = .ok (.iload_n 2, 1) := by decide +kernel
theorem dX11_home_60 : decode cX11_home 60 = .ok (.aaload, 1) := by decide +kernel
theorem dX11_home_61 : decode cX11_home 61 = .ok (.iload_n 1, 1) := by decide +kernel
theorem dX11_home_62 : decode cX11_home 62 = .ok (.iaload, 1) := by decide +kernel
theorem dX11_home_63 : decode cX11_home 63 = .ok (.ireturn, 1) := by decide +kernel
theorem dX11_book_0 : decode cX11_book 0 = .ok (.iload_n 1, 1) := by decide +kernel
theorem dX11_book_1 : decode cX11_book 1 = .ok (.iconst 0, 1) := by decide +kernel
theorem dX11_book_2 : decode cX11_book 2 = .ok (.aload_n 0, 1) := by decide +kernel
theorem dX11_book_3 : decode cX11_book 3 = .ok (.getfield 342, 3) := by decide +kernel
theorem dX11_book_6 : decode cX11_book 6 = .ok (.sipush 200, 3) := by decide +kernel
theorem dX11_book_9 : decode cX11_book 9 = .ok (.invokestatic 345, 3) := by decide +kernel
theorem dX11_book_12 : decode cX11_book 12 = .ok (.iconst 1, 1) := by decide +kernel
theorem dX11_book_13 : decode cX11_book 13 = .ok (.isub, 1) := by decide +kernel
theorem dX11_book_14 : decode cX11_book 14 = .ok (.invokestatic 163, 3) := by decide +kernel
theorem dX11_book_17 : decode cX11_book 17 = .ok (.ifCond .eq 23, 3) := by decide +kernel
theorem dX11_book_20 : decode cX11_book 20 = .ok (.iload_n 2, 1) := by decide +kernel
theorem dX11_book_21 : decode cX11_book 21 = .ok (.iconst 0, 1) := by decide +kernel
theorem dX11_book_22 : decode cX11_book 22 = .ok (.iconst 5, 1) := by decide +kernel
theorem dX11_book_23 : decode cX11_book 23 = .ok (.invokestatic 163, 3) := by decide +kernel
theorem dX11_book_26 : decode cX11_book 26 = .ok (.ifCond .eq 14, 3) := by decide +kernel
theorem dX11_book_29 : decode cX11_book 29 = .ok (.aload_n 0, 1) := by decide +kernel
theorem dX11_book_30 : decode cX11_book 30 = .ok (.getfield 86, 3) := by decide +kernel
theorem dX11_book_33 : decode cX11_book 33 = .ok (.iload_n 1, 1) := by decide +kernel
theorem dX11_book_34 : decode cX11_book 34 = .ok (.aaload, 1) := by decide +kernel
theorem dX11_book_35 : decode cX11_book 35 = .ok (.iload_n 2, 1) := by decide +kernel
theorem dX11_book_36 : decode cX11_book 36 = .ok (.iaload, 1) := by decide +kernel
theorem dX11_book_37 : decode cX11_book 37 = .ok (.goto 5, 3) := by decide +kernel
theorem dX11_book_40 : decode cX11_book 40 = .ok (.bipush (-5), 2) := by decide +kernel
theorem dX11_book_42 : decode cX11_book 42 = .ok (.ireturn, 1) := by decide +kernel
theorem dX11_grow_0 : decode cX11_grow 0 = .ok (.aload_n 0, 1) := by decide +kernel
theorem dX11_grow_1 : decode cX11_grow 1 = .ok (.iload_n 2, 1) := by decide +kernel
theorem dX11_grow_2 : decode cX11_grow 2 = .ok (.iconst 0, 1) := by decide +kernel
theorem dX11_grow_3 : decode cX11_grow 3 = .ok (.invokevirtual 357, 3) := by decide +kernel
theorem dX11_grow_6 : decode cX11_grow 6 = .ok (.iconst 5, 1) := by decide +kernel
theorem dX11_grow_7 : decode cX11_grow 7 = .ok (.aload_n 0, 1) := by decide +kernel
theorem dX11_grow_8 : decode cX11_grow 8 = .ok (.getfield 74, 3) := by decide +kernel
theorem dX11_grow_11 : decode cX11_grow 11 = .ok (.iload_n 1, 1) := by decide +kernel
theorem dX11_grow_12 : decode cX11_grow 12 = .ok (.iaload, 1) := by decide +kernel
theorem dX11_grow_13 : decode cX11_grow 13 = .ok (.imul, 1) := by decide +kernel
theorem dX11_grow_14 : decode cX11_grow 14 = .ok (.isub, 1) := by decide +kernel
theorem dX11_grow_15 : decode cX11_grow 15 = .ok (.istore_n 3, 1) := by decide +kernel
theorem dX11_grow_16 : decode cX11_grow 16 = .ok (.iload_n 3, 1) := by decide +kernel
theorem dX11_grow_17 : decode cX11_grow 17 = .ok (.iconst 2, 1) := by decide +kernel
theorem dX11_grow_18 : decode cX11_grow 18 = .ok (.if_icmp .gt 21, 3) := by decide +kernel
theorem dX11_grow_21 : decode cX11_grow 21 = .ok (.aload_n 0, 1) := by decide +kernel
