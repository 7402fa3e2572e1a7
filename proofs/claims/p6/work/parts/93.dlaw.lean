theorem dlaw_0 : decode code 0 = .ok (.new 8, 3) := by decide +kernel
theorem dlaw_3 : decode code 3 = .ok (.dup, 1) := by decide +kernel
theorem dlaw_4 : decode code 4 = .ok (.invokespecial 68, 3) := by decide +kernel
theorem dlaw_7 : decode code 7 = .ok (.astore_n 1, 1) := by decide +kernel
theorem dlaw_8 : decode code 8 = .ok (.new 69, 3) := by decide +kernel
theorem dlaw_11 : decode code 11 = .ok (.dup, 1) := by decide +kernel
theorem dlaw_12 : decode code 12 = .ok (.invokespecial 71, 3) := by decide +kernel
theorem dlaw_15 : decode code 15 = .ok (.astore_n 2, 1) := by decide +kernel
theorem dlaw_16 : decode code 16 = .ok (.iconst 1, 1) := by decide +kernel
theorem dlaw_17 : decode code 17 = .ok (.newarray .long, 2) := by decide +kernel
theorem dlaw_19 : decode code 19 = .ok (.astore_n 3, 1) := by decide +kernel
theorem dlaw_20 : decode code 20 = .ok (.iconst 1, 1) := by decide +kernel
theorem dlaw_21 : decode code 21 = .ok (.newarray .double, 2) := by decide +kernel
theorem dlaw_23 : decode code 23 = .ok (.astore 4, 2) := by decide +kernel
theorem dlaw_25 : decode code 25 = .ok (.iconst 0, 1) := by decide +kernel
theorem dlaw_26 : decode code 26 = .ok (.istore 5, 2) := by decide +kernel
theorem dlaw_28 : decode code 28 = .ok (.iload 5, 2) := by decide +kernel
theorem dlaw_30 : decode code 30 = .ok (.aload_n 0, 1) := by decide +kernel
theorem dlaw_31 : decode code 31 = .ok (.arraylength, 1) := by decide +kernel
theorem dlaw_32 : decode code 32 = .ok (.iconst 4, 1) := by decide +kernel
theorem dlaw_33 : decode code 33 = .ok (.isub, 1) := by decide +kernel
theorem dlaw_34 : decode code 34 = .ok (.if_icmp .gt 686, 3) := by decide +kernel
theorem dlaw_37 : decode code 37 = .ok (.aload_n 0, 1) := by decide +kernel
theorem dlaw_38 : decode code 38 = .ok (.iload 5, 2) := by decide +kernel
theorem dlaw_40 : decode code 40 = .ok (.iaload, 1) := by decide +kernel
theorem dlaw_41 : decode code 41 = .ok (.bipush 15, 2) := by decide +kernel
theorem dlaw_43 : decode code 43 = .ok (.iand, 1) := by decide +kernel
theorem dlaw_44 : decode code 44 = .ok (.tableswitch 670 0 15 #[80, 152, 168, 181, 243, 256, 285, 326, 367, 436, 488, 516, 557, 573, 613, 642], 80) := by decide +kernel
theorem dlaw_124 : decode code 124 = .ok (.aload_n 1, 1) := by decide +kernel
theorem dlaw_125 : decode code 125 = .ok (.aload_n 0, 1) := by decide +kernel
theorem dlaw_126 : decode code 126 = .ok (.iload 5, 2) := by decide +kernel
theorem dlaw_128 : decode code 128 = .ok (.iconst 1, 1) := by decide +kernel
theorem dlaw_129 : decode code 129 = .ok (.iadd, 1) := by decide +kernel
theorem dlaw_130 : decode code 130 = .ok (.iaload, 1) := by decide +kernel
theorem dlaw_131 : decode code 131 = .ok (.aload_n 0, 1) := by decide +kernel
theorem dlaw_132 : decode code 132 = .ok (.iload 5, 2) := by decide +kernel
theorem dlaw_134 : decode code 134 = .ok (.iconst 2, 1) := by decide +kernel
theorem dlaw_135 : decode code 135 = .ok (.iadd, 1) := by decide +kernel
theorem dlaw_136 : decode code 136 = .ok (.iaload, 1) := by decide +kernel
theorem dlaw_137 : decode code 137 = .ok (.i2l, 1) := by decide +kernel
theorem dlaw_138 : decode code 138 = .ok (.bipush 32, 2) := by decide +kernel
theorem dlaw_140 : decode code 140 = .ok (.lshl, 1) := by decide +kernel
theorem dlaw_141 : decode code 141 = .ok (.aload_n 0, 1) := by decide +kernel
theorem dlaw_142 : decode code 142 = .ok (.iload 5, 2) := by decide +kernel
theorem dlaw_144 : decode code 144 = .ok (.iconst 3, 1) := by decide +kernel
theorem dlaw_145 : decode code 145 = .ok (.iadd, 1) := by decide +kernel
theorem dlaw_146 : decode code 146 = .ok (.iaload, 1) := by decide +kernel
theorem dlaw_147 : decode code 147 = .ok (.i2l, 1) := by decide +kernel
theorem dlaw_148 : decode code 148 = .ok (.ldc2_w 72, 3) := by decide +kernel
theorem dlaw_151 : decode code 151 = .ok (.land, 1) := by decide +kernel
theorem dlaw_152 : decode code 152 = .ok (.lor, 1) := by decide +kernel
theorem dlaw_153 : decode code 153 = .ok (.aload_n 3, 1) := by decide +kernel
theorem dlaw_154 : decode code 154 = .ok (.invokestatic 74, 3) := by decide +kernel
theorem dlaw_157 : decode code 157 = .ok (.istore 6, 2) := by decide +kernel
theorem dlaw_159 : decode code 159 = .ok (.aload_n 2, 1) := by decide +kernel
theorem dlaw_160 : decode code 160 = .ok (.aload_n 0, 1) := by decide +kernel
theorem dlaw_161 : decode code 161 = .ok (.iload 5, 2) := by decide +kernel
theorem dlaw_163 : decode code 163 = .ok (.iconst 1, 1) := by decide +kernel
theorem dlaw_164 : decode code 164 = .ok (.iadd, 1) := by decide +kernel
theorem dlaw_165 : decode code 165 = .ok (.iaload, 1) := by decide +kernel
theorem dlaw_166 : decode code 166 = .ok (.aload_n 0, 1) := by decide +kernel
theorem dlaw_167 : decode code 167 = .ok (.iload 5, 2) := by decide +kernel
theorem dlaw_169 : decode code 169 = .ok (.iconst 2, 1) := by decide +kernel
theorem dlaw_170 : decode code 170 = .ok (.iadd, 1) := by decide +kernel
theorem dlaw_171 : decode code 171 = .ok (.iaload, 1) := by decide +kernel
theorem dlaw_172 : decode code 172 = .ok (.i2l, 1) := by decide +kernel
theorem dlaw_173 : decode code 173 = .ok (.bipush 32, 2) := by decide +kernel
theorem dlaw_175 : decode code 175 = .ok (.lshl, 1) := by decide +kernel
theorem dlaw_176 : decode code 176 = .ok (.aload_n 0, 1) := by decide +kernel
theorem dlaw_177 : decode code 177 = .ok (.iload 5, 2) := by decide +kernel
theorem dlaw_179 : decode code 179 = .ok (.iconst 3, 1) := by decide +kernel
theorem dlaw_180 : decode code 180 = .ok (.iadd, 1) := by decide +kernel
theorem dlaw_181 : decode code 181 = .ok (.iaload, 1) := by decide +kernel
theorem dlaw_182 : decode code 182 = .ok (.i2l, 1) := by decide +kernel
theorem dlaw_183 : decode code 183 = .ok (.ldc2_w 72, 3) := by decide +kernel
theorem dlaw_186 : decode code 186 = .ok (.land, 1) := by decide +kernel
theorem dlaw_187 : decode code 187 = .ok (.lor, 1) := by decide +kernel
theorem dlaw_188 : decode code 188 = .ok (.invokevirtual 79, 3) := by decide +kernel
theorem dlaw_191 : decode code 191 = .ok (.istore 7, 2) := by decide +kernel
theorem dlaw_193 : decode code 193 = .ok (.goto 521, 3) := by decide +kernel
theorem dlaw_196 : decode code 196 = .ok (.aload_n 1, 1) := by decide +kernel
theorem dlaw_197 : decode code 197 = .ok (.aload_n 3, 1) := by decide +kernel
theorem dlaw_198 : decode code 198 = .ok (.invokestatic 80, 3) := by decide +kernel
theorem dlaw_201 : decode code 201 = .ok (.istore 6, 2) := by decide +kernel
theorem dlaw_203 : decode code 203 = .ok (.aload_n 2, 1) := by decide +kernel
theorem dlaw_204 : decode code 204 = .ok (.invokevirtual 83, 3) := by decide +kernel
theorem dlaw_207 : decode code 207 = .ok (.istore 7, 2) := by decide +kernel
theorem dlaw_209 : decode code 209 = .ok (.goto 505, 3) := by decide +kernel
theorem dlaw_212 : decode code 212 = .ok (.aload_n 1, 1) := by decide +kernel
theorem dlaw_213 : decode code 213 = .ok (.invokevirtual 84, 3) := by decide +kernel
theorem dlaw_216 : decode code 216 = .ok (.pop, 1) := by decide +kernel
theorem dlaw_217 : decode code 217 = .ok (.aload_n 2, 1) := by decide +kernel
theorem dlaw_218 : decode code 218 = .ok (.invokevirtual 87, 3) := by decide +kernel
theorem dlaw_221 : decode code 221 = .ok (.pop, 1) := by decide +kernel
theorem dlaw_222 : decode code 222 = .ok (.goto 492, 3) := by decide +kernel
theorem dlaw_225 : decode code 225 = .ok (.aload_n 1, 1) := by decide +kernel
theorem dlaw_226 : decode code 226 = .ok (.aload_n 0, 1) := by decide +kernel
theorem dlaw_227 : decode code 227 = .ok (.iload 5, 2) := by decide +kernel
theorem dlaw_229 : decode code 229 = .ok (.iconst 1, 1) := by decide +kernel
theorem dlaw_230 : decode code 230 = .ok (.iadd, 1) := by decide +kernel
theorem dlaw_231 : decode code 231 = .ok (.iaload, 1) := by decide +kernel
theorem dlaw_232 : decode code 232 = .ok (.aload_n 0, 1) := by decide +kernel
theorem dlaw_233 : decode code 233 = .ok (.iload 5, 2) := by decide +kernel
theorem dlaw_235 : decode code 235 = .ok (.iconst 2, 1) := by decide +kernel
theorem dlaw_236 : decode code 236 = .ok (.iadd, 1) := by decide +kernel
theorem dlaw_237 : decode code 237 = .ok (.iaload, 1) := by decide +kernel
theorem dlaw_238 : decode code 238 = .ok (.aload_n 0, 1) := by decide +kernel
theorem dlaw_239 : decode code 239 = .ok (.iload 5, 2) := by decide +kernel
theorem dlaw_241 : decode code 241 = .ok (.iconst 3, 1) := by decide +kernel
theorem dlaw_242 : decode code 242 = .ok (.iadd, 1) := by decide +kernel
theorem dlaw_243 : decode code 243 = .ok (.iaload, 1) := by decide +kernel
theorem dlaw_244 : decode code 244 = .ok (.i2d, 1) := by decide +kernel
theorem dlaw_245 : decode code 245 = .ok (.ldc2_w 88, 3) := by decide +kernel
theorem dlaw_248 : decode code 248 = .ok (.dmul, 1) := by decide +kernel
theorem dlaw_249 : decode code 249 = .ok (.aload_n 3, 1) := by decide +kernel
theorem dlaw_250 : decode code 250 = .ok (.invokestatic 90, 3) := by decide +kernel
theorem dlaw_253 : decode code 253 = .ok (.istore 6, 2) := by decide +kernel
theorem dlaw_255 : decode code 255 = .ok (.aload_n 2, 1) := by decide +kernel
theorem dlaw_256 : decode code 256 = .ok (.aload_n 0, 1) := by decide +kernel
theorem dlaw_257 : decode code 257 = .ok (.iload 5, 2) := by decide +kernel
theorem dlaw_259 : decode code 259 = .ok (.iconst 1, 1) := by decide +kernel
theorem dlaw_260 : decode code 260 = .ok (.iadd, 1) := by decide +kernel
theorem dlaw_261 : decode code 261 = .ok (.iaload, 1) := by decide +kernel
theorem dlaw_262 : decode code 262 = .ok (.aload_n 0, 1) := by decide +kernel
theorem dlaw_263 : decode code 263 = .ok (.iload 5, 2) := by decide +kernel
theorem dlaw_265 : decode code 265 = .ok (.iconst 2, 1) := by decide +kernel
theorem dlaw_266 : decode code 266 = .ok (.iadd, 1) := by decide +kernel
theorem dlaw_267 : decode code 267 = .ok (.iaload, 1) := by decide +kernel
theorem dlaw_268 : decode code 268 = .ok (.aload_n 0, 1) := by decide +kernel
theorem dlaw_269 : decode code 269 = .ok (.iload 5, 2) := by decide +kernel
theorem dlaw_271 : decode code 271 = .ok (.iconst 3, 1) := by decide +kernel
theorem dlaw_272 : decode code 272 = .ok (.iadd, 1) := by decide +kernel
theorem dlaw_273 : decode code 273 = .ok (.iaload, 1) := by decide +kernel
theorem dlaw_274 : decode code 274 = .ok (.i2d, 1) := by decide +kernel
theorem dlaw_275 : decode code 275 = .ok (.ldc2_w 88, 3) := by decide +kernel
theorem dlaw_278 : decode code 278 = .ok (.dmul, 1) := by decide +kernel
theorem dlaw_279 : decode code 279 = .ok (.invokevirtual 93, 3) := by decide +kernel
theorem dlaw_282 : decode code 282 = .ok (.istore 7, 2) := by decide +kernel
theorem dlaw_284 : decode code 284 = .ok (.goto 430, 3) := by decide +kernel
theorem dlaw_287 : decode code 287 = .ok (.aload_n 1, 1) := by decide +kernel
theorem dlaw_288 : decode code 288 = .ok (.invokevirtual 94, 3) := by decide +kernel
theorem dlaw_291 : decode code 291 = .ok (.aload_n 2, 1) := by decide +kernel
theorem dlaw_292 : decode code 292 = .ok (.invokevirtual 97, 3) := by decide +kernel
theorem dlaw_295 : decode code 295 = .ok (.if_icmp .eq 419, 3) := by decide +kernel
theorem dlaw_298 : decode code 298 = .ok (.iconst 0, 1) := by decide +kernel
theorem dlaw_299 : decode code 299 = .ok (.ireturn, 1) := by decide +kernel
theorem dlaw_300 : decode code 300 = .ok (.aload_n 1, 1) := by decide +kernel
theorem dlaw_301 : decode code 301 = .ok (.aload_n 0, 1) := by decide +kernel
theorem dlaw_302 : decode code 302 = .ok (.iload 5, 2) := by decide +kernel
theorem dlaw_304 : decode code 304 = .ok (.iconst 1, 1) := by decide +kernel
theorem dlaw_305 : decode code 305 = .ok (.iadd, 1) := by decide +kernel
theorem dlaw_306 : decode code 306 = .ok (.iaload, 1) := by decide +kernel
theorem dlaw_307 : decode code 307 = .ok (.aload 4, 2) := by decide +kernel
theorem dlaw_309 : decode code 309 = .ok (.invokestatic 98, 3) := by decide +kernel
theorem dlaw_312 : decode code 312 = .ok (.istore 6, 2) := by decide +kernel
theorem dlaw_314 : decode code 314 = .ok (.aload_n 2, 1) := by decide +kernel
theorem dlaw_315 : decode code 315 = .ok (.aload_n 0, 1) := by decide +kernel
theorem dlaw_316 : decode code 316 = .ok (.iload 5, 2) := by decide +kernel
theorem dlaw_318 : decode code 318 = .ok (.iconst 1, 1) := by decide +kernel
theorem dlaw_319 : decode code 319 = .ok (.iadd, 1) := by decide +kernel
theorem dlaw_320 : decode code 320 = .ok (.iaload, 1) := by decide +kernel
theorem dlaw_321 : decode code 321 = .ok (.invokevirtual 101, 3) := by decide +kernel
theorem dlaw_324 : decode code 324 = .ok (.dstore 7, 2) := by decide +kernel
theorem dlaw_326 : decode code 326 = .ok (.goto 388, 3) := by decide +kernel
theorem dlaw_329 : decode code 329 = .ok (.aload_n 1, 1) := by decide +kernel
theorem dlaw_330 : decode code 330 = .ok (.aload_n 0, 1) := by decide +kernel
theorem dlaw_331 : decode code 331 = .ok (.iload 5, 2) := by decide +kernel
theorem dlaw_333 : decode code 333 = .ok (.iconst 1, 1) := by decide +kernel
theorem dlaw_334 : decode code 334 = .ok (.iadd, 1) := by decide +kernel
theorem dlaw_335 : decode code 335 = .ok (.iaload, 1) := by decide +kernel
theorem dlaw_336 : decode code 336 = .ok (.aload_n 0, 1) := by decide +kernel
theorem dlaw_337 : decode code 337 = .ok (.iload 5, 2) := by decide +kernel
theorem dlaw_339 : decode code 339 = .ok (.iconst 2, 1) := by decide +kernel
theorem dlaw_340 : decode code 340 = .ok (.iadd, 1) := by decide +kernel
theorem dlaw_341 : decode code 341 = .ok (.iaload, 1) := by decide +kernel
theorem dlaw_342 : decode code 342 = .ok (.aload 4, 2) := by decide +kernel
theorem dlaw_344 : decode code 344 = .ok (.invokestatic 102, 3) := by decide +kernel
theorem dlaw_347 : decode code 347 = .ok (.istore 6, 2) := by decide +kernel
theorem dlaw_349 : decode code 349 = .ok (.aload_n 2, 1) := by decide +kernel
theorem dlaw_350 : decode code 350 = .ok (.aload_n 0, 1) := by decide +kernel
theorem dlaw_351 : decode code 351 = .ok (.iload 5, 2) := by decide +kernel
theorem dlaw_353 : decode code 353 = .ok (.iconst 1, 1) := by decide +kernel
theorem dlaw_354 : decode code 354 = .ok (.iadd, 1) := by decide +kernel
theorem dlaw_355 : decode code 355 = .ok (.iaload, 1) := by decide +kernel
theorem dlaw_356 : decode code 356 = .ok (.aload_n 0, 1) := by decide +kernel
theorem dlaw_357 : decode code 357 = .ok (.iload 5, 2) := by decide +kernel
theorem dlaw_359 : decode code 359 = .ok (.iconst 2, 1) := by decide +kernel
theorem dlaw_360 : decode code 360 = .ok (.iadd, 1) := by decide +kernel
theorem dlaw_361 : decode code 361 = .ok (.iaload, 1) := by decide +kernel
theorem dlaw_362 : decode code 362 = .ok (.invokevirtual 105, 3) := by decide +kernel
theorem dlaw_365 : decode code 365 = .ok (.dstore 7, 2) := by decide +kernel
theorem dlaw_367 : decode code 367 = .ok (.goto 347, 3) := by decide +kernel
theorem dlaw_370 : decode code 370 = .ok (.aload_n 1, 1) := by decide +kernel
theorem dlaw_371 : decode code 371 = .ok (.aload_n 0, 1) := by decide +kernel
theorem dlaw_372 : decode code 372 = .ok (.iload 5, 2) := by decide +kernel
theorem dlaw_374 : decode code 374 = .ok (.iconst 1, 1) := by decide +kernel
theorem dlaw_375 : decode code 375 = .ok (.iadd, 1) := by decide +kernel
theorem dlaw_376 : decode code 376 = .ok (.iaload, 1) := by decide +kernel
theorem dlaw_377 : decode code 377 = .ok (.aload_n 0, 1) := by decide +kernel
theorem dlaw_378 : decode code 378 = .ok (.iload 5, 2) := by decide +kernel
theorem dlaw_380 : decode code 380 = .ok (.iconst 2, 1) := by decide +kernel
theorem dlaw_381 : decode code 381 = .ok (.iadd, 1) := by decide +kernel
theorem dlaw_382 : decode code 382 = .ok (.iaload, 1) := by decide +kernel
theorem dlaw_383 : decode code 383 = .ok (.aload 4, 2) := by decide +kernel
theorem dlaw_385 : decode code 385 = .ok (.invokestatic 106, 3) := by decide +kernel
theorem dlaw_388 : decode code 388 = .ok (.istore 6, 2) := by decide +kernel
theorem dlaw_390 : decode code 390 = .ok (.aload_n 2, 1) := by decide +kernel
theorem dlaw_391 : decode code 391 = .ok (.aload_n 0, 1) := by decide +kernel
theorem dlaw_392 : decode code 392 = .ok (.iload 5, 2) := by decide +kernel
theorem dlaw_394 : decode code 394 = .ok (.iconst 1, 1) := by decide +kernel
theorem dlaw_395 : decode code 395 = .ok (.iadd, 1) := by decide +kernel
theorem dlaw_396 : decode code 396 = .ok (.iaload, 1) := by decide +kernel
theorem dlaw_397 : decode code 397 = .ok (.aload_n 0, 1) := by decide +kernel
theorem dlaw_398 : decode code 398 = .ok (.iload 5, 2) := by decide +kernel
theorem dlaw_400 : decode code 400 = .ok (.iconst 2, 1) := by decide +kernel
theorem dlaw_401 : decode code 401 = .ok (.iadd, 1) := by decide +kernel
theorem dlaw_402 : decode code 402 = .ok (.iaload, 1) := by decide +kernel
theorem dlaw_403 : decode code 403 = .ok (.invokevirtual 108, 3) := by decide +kernel
theorem dlaw_406 : decode code 406 = .ok (.dstore 7, 2) := by decide +kernel
theorem dlaw_408 : decode code 408 = .ok (.goto 306, 3) := by decide +kernel
theorem dlaw_411 : decode code 411 = .ok (.aload_n 1, 1) := by decide +kernel
theorem dlaw_412 : decode code 412 = .ok (.aload_n 0, 1) := by decide +kernel
theorem dlaw_413 : decode code 413 = .ok (.iload 5, 2) := by decide +kernel
theorem dlaw_415 : decode code 415 = .ok (.iconst 1, 1) := by decide +kernel
theorem dlaw_416 : decode code 416 = .ok (.iadd, 1) := by decide +kernel
theorem dlaw_417 : decode code 417 = .ok (.iaload, 1) := by decide +kernel
theorem dlaw_418 : decode code 418 = .ok (.i2d, 1) := by decide +kernel
theorem dlaw_419 : decode code 419 = .ok (.ldc2_w 88, 3) := by decide +kernel
theorem dlaw_422 : decode code 422 = .ok (.dmul, 1) := by decide +kernel
theorem dlaw_423 : decode code 423 = .ok (.aload_n 0, 1) := by decide +kernel
theorem dlaw_424 : decode code 424 = .ok (.iload 5, 2) := by decide +kernel
theorem dlaw_426 : decode code 426 = .ok (.iconst 2, 1) := by decide +kernel
theorem dlaw_427 : decode code 427 = .ok (.iadd, 1) := by decide +kernel
theorem dlaw_428 : decode code 428 = .ok (.iaload, 1) := by decide +kernel
theorem dlaw_429 : decode code 429 = .ok (.aload_n 0, 1) := by decide +kernel
theorem dlaw_430 : decode code 430 = .ok (.iload 5, 2) := by decide +kernel
theorem dlaw_432 : decode code 432 = .ok (.iconst 3, 1) := by decide +kernel
theorem dlaw_433 : decode code 433 = .ok (.iadd, 1) := by decide +kernel
theorem dlaw_434 : decode code 434 = .ok (.iaload, 1) := by decide +kernel
theorem dlaw_435 : decode code 435 = .ok (.i2d, 1) := by decide +kernel
theorem dlaw_436 : decode code 436 = .ok (.ldc2_w 88, 3) := by decide +kernel
theorem dlaw_439 : decode code 439 = .ok (.dmul, 1) := by decide +kernel
theorem dlaw_440 : decode code 440 = .ok (.invokestatic 109, 3) := by decide +kernel
theorem dlaw_443 : decode code 443 = .ok (.istore 6, 2) := by decide +kernel
theorem dlaw_445 : decode code 445 = .ok (.aload_n 2, 1) := by decide +kernel
theorem dlaw_446 : decode code 446 = .ok (.aload_n 0, 1) := by decide +kernel
theorem dlaw_447 : decode code 447 = .ok (.iload 5, 2) := by decide +kernel
theorem dlaw_449 : decode code 449 = .ok (.iconst 1, 1) := by decide +kernel
theorem dlaw_450 : decode code 450 = .ok (.iadd, 1) := by decide +kernel
theorem dlaw_451 : decode code 451 = .ok (.iaload, 1) := by decide +kernel
theorem dlaw_452 : decode code 452 = .ok (.i2d, 1) := by decide +kernel
theorem dlaw_453 : decode code 453 = .ok (.ldc2_w 88, 3) := by decide +kernel
theorem dlaw_456 : decode code 456 = .ok (.dmul, 1) := by decide +kernel
theorem dlaw_457 : decode code 457 = .ok (.aload_n 0, 1) := by decide +kernel
theorem dlaw_458 : decode code 458 = .ok (.iload 5, 2) := by decide +kernel
theorem dlaw_460 : decode code 460 = .ok (.iconst 2, 1) := by decide +kernel
theorem dlaw_461 : decode code 461 = .ok (.iadd, 1) := by decide +kernel
theorem dlaw_462 : decode code 462 = .ok (.iaload, 1) := by decide +kernel
theorem dlaw_463 : decode code 463 = .ok (.aload_n 0, 1) := by decide +kernel
theorem dlaw_464 : decode code 464 = .ok (.iload 5, 2) := by decide +kernel
theorem dlaw_466 : decode code 466 = .ok (.iconst 3, 1) := by decide +kernel
theorem dlaw_467 : decode code 467 = .ok (.iadd, 1) := by decide +kernel
theorem dlaw_468 : decode code 468 = .ok (.iaload, 1) := by decide +kernel
theorem dlaw_469 : decode code 469 = .ok (.i2d, 1) := by decide +kernel
theorem dlaw_470 : decode code 470 = .ok (.ldc2_w 88, 3) := by decide +kernel
theorem dlaw_473 : decode code 473 = .ok (.dmul, 1) := by decide +kernel
theorem dlaw_474 : decode code 474 = .ok (.invokevirtual 112, 3) := by decide +kernel
theorem dlaw_477 : decode code 477 = .ok (.goto 237, 3) := by decide +kernel
theorem dlaw_480 : decode code 480 = .ok (.aload_n 1, 1) := by decide +kernel
theorem dlaw_481 : decode code 481 = .ok (.aload_n 0, 1) := by decide +kernel
theorem dlaw_482 : decode code 482 = .ok (.iload 5, 2) := by decide +kernel
theorem dlaw_484 : decode code 484 = .ok (.iconst 1, 1) := by decide +kernel
theorem dlaw_485 : decode code 485 = .ok (.iadd, 1) := by decide +kernel
theorem dlaw_486 : decode code 486 = .ok (.iaload, 1) := by decide +kernel
theorem dlaw_487 : decode code 487 = .ok (.aload_n 0, 1) := by decide +kernel
theorem dlaw_488 : decode code 488 = .ok (.iload 5, 2) := by decide +kernel
theorem dlaw_490 : decode code 490 = .ok (.iconst 2, 1) := by decide +kernel
theorem dlaw_491 : decode code 491 = .ok (.iadd, 1) := by decide +kernel
theorem dlaw_492 : decode code 492 = .ok (.iaload, 1) := by decide +kernel
theorem dlaw_493 : decode code 493 = .ok (.aload_n 0, 1) := by decide +kernel
theorem dlaw_494 : decode code 494 = .ok (.iload 5, 2) := by decide +kernel
theorem dlaw_496 : decode code 496 = .ok (.iconst 3, 1) := by decide +kernel
theorem dlaw_497 : decode code 497 = .ok (.iadd, 1) := by decide +kernel
theorem dlaw_498 : decode code 498 = .ok (.iaload, 1) := by decide +kernel
theorem dlaw_499 : decode code 499 = .ok (.aload_n 3, 1) := by decide +kernel
theorem dlaw_500 : decode code 500 = .ok (.invokestatic 113, 3) := by decide +kernel
theorem dlaw_503 : decode code 503 = .ok (.istore 6, 2) := by decide +kernel
theorem dlaw_505 : decode code 505 = .ok (.aload_n 2, 1) := by decide +kernel
theorem dlaw_506 : decode code 506 = .ok (.aload_n 0, 1) := by decide +kernel
theorem dlaw_507 : decode code 507 = .ok (.iload 5, 2) := by decide +kernel
theorem dlaw_509 : decode code 509 = .ok (.iconst 1, 1) := by decide +kernel
theorem dlaw_510 : decode code 510 = .ok (.iadd, 1) := by decide +kernel
theorem dlaw_511 : decode code 511 = .ok (.iaload, 1) := by decide +kernel
theorem dlaw_512 : decode code 512 = .ok (.aload_n 0, 1) := by decide +kernel
theorem dlaw_513 : decode code 513 = .ok (.iload 5, 2) := by decide +kernel
theorem dlaw_515 : decode code 515 = .ok (.iconst 2, 1) := by decide +kernel
theorem dlaw_516 : decode code 516 = .ok (.iadd, 1) := by decide +kernel
theorem dlaw_517 : decode code 517 = .ok (.iaload, 1) := by decide +kernel
theorem dlaw_518 : decode code 518 = .ok (.aload_n 0, 1) := by decide +kernel
theorem dlaw_519 : decode code 519 = .ok (.iload 5, 2) := by decide +kernel
theorem dlaw_521 : decode code 521 = .ok (.iconst 3, 1) := by decide +kernel
theorem dlaw_522 : decode code 522 = .ok (.iadd, 1) := by decide +kernel
theorem dlaw_523 : decode code 523 = .ok (.iaload, 1) := by decide +kernel
theorem dlaw_524 : decode code 524 = .ok (.invokevirtual 116, 3) := by decide +kernel
theorem dlaw_527 : decode code 527 = .ok (.istore 7, 2) := by decide +kernel
theorem dlaw_529 : decode code 529 = .ok (.goto 185, 3) := by decide +kernel
theorem dlaw_532 : decode code 532 = .ok (.aload_n 1, 1) := by decide +kernel
theorem dlaw_533 : decode code 533 = .ok (.aload_n 0, 1) := by decide +kernel
theorem dlaw_534 : decode code 534 = .ok (.iload 5, 2) := by decide +kernel
theorem dlaw_536 : decode code 536 = .ok (.iconst 1, 1) := by decide +kernel
theorem dlaw_537 : decode code 537 = .ok (.iadd, 1) := by decide +kernel
theorem dlaw_538 : decode code 538 = .ok (.iaload, 1) := by decide +kernel
theorem dlaw_539 : decode code 539 = .ok (.aload_n 3, 1) := by decide +kernel
theorem dlaw_540 : decode code 540 = .ok (.invokestatic 117, 3) := by decide +kernel
theorem dlaw_543 : decode code 543 = .ok (.istore 6, 2) := by decide +kernel
theorem dlaw_545 : decode code 545 = .ok (.aload_n 2, 1) := by decide +kernel
theorem dlaw_546 : decode code 546 = .ok (.aload_n 0, 1) := by decide +kernel
theorem dlaw_547 : decode code 547 = .ok (.iload 5, 2) := by decide +kernel
theorem dlaw_549 : decode code 549 = .ok (.iconst 1, 1) := by decide +kernel
theorem dlaw_550 : decode code 550 = .ok (.iadd, 1) := by decide +kernel
theorem dlaw_551 : decode code 551 = .ok (.iaload, 1) := by decide +kernel
theorem dlaw_552 : decode code 552 = .ok (.invokevirtual 120, 3) := by decide +kernel
theorem dlaw_555 : decode code 555 = .ok (.istore 7, 2) := by decide +kernel
theorem dlaw_557 : decode code 557 = .ok (.goto 157, 3) := by decide +kernel
theorem dlaw_560 : decode code 560 = .ok (.aload_n 1, 1) := by decide +kernel
theorem dlaw_561 : decode code 561 = .ok (.aload_n 0, 1) := by decide +kernel
theorem dlaw_562 : decode code 562 = .ok (.iload 5, 2) := by decide +kernel
theorem dlaw_564 : decode code 564 = .ok (.iconst 1, 1) := by decide +kernel
theorem dlaw_565 : decode code 565 = .ok (.iadd, 1) := by decide +kernel
theorem dlaw_566 : decode code 566 = .ok (.iaload, 1) := by decide +kernel
theorem dlaw_567 : decode code 567 = .ok (.aload_n 0, 1) := by decide +kernel
theorem dlaw_568 : decode code 568 = .ok (.iload 5, 2) := by decide +kernel
theorem dlaw_570 : decode code 570 = .ok (.iconst 2, 1) := by decide +kernel
theorem dlaw_571 : decode code 571 = .ok (.iadd, 1) := by decide +kernel
theorem dlaw_572 : decode code 572 = .ok (.iaload, 1) := by decide +kernel
theorem dlaw_573 : decode code 573 = .ok (.aload 4, 2) := by decide +kernel
theorem dlaw_575 : decode code 575 = .ok (.invokestatic 121, 3) := by decide +kernel
theorem dlaw_578 : decode code 578 = .ok (.istore 6, 2) := by decide +kernel
theorem dlaw_580 : decode code 580 = .ok (.aload_n 2, 1) := by decide +kernel
theorem dlaw_581 : decode code 581 = .ok (.aload_n 0, 1) := by decide +kernel
theorem dlaw_582 : decode code 582 = .ok (.iload 5, 2) := by decide +kernel
theorem dlaw_584 : decode code 584 = .ok (.iconst 1, 1) := by decide +kernel
theorem dlaw_585 : decode code 585 = .ok (.iadd, 1) := by decide +kernel
theorem dlaw_586 : decode code 586 = .ok (.iaload, 1) := by decide +kernel
theorem dlaw_587 : decode code 587 = .ok (.aload_n 0, 1) := by decide +kernel
theorem dlaw_588 : decode code 588 = .ok (.iload 5, 2) := by decide +kernel
theorem dlaw_590 : decode code 590 = .ok (.iconst 2, 1) := by decide +kernel
theorem dlaw_591 : decode code 591 = .ok (.iadd, 1) := by decide +kernel
theorem dlaw_592 : decode code 592 = .ok (.iaload, 1) := by decide +kernel
theorem dlaw_593 : decode code 593 = .ok (.invokevirtual 123, 3) := by decide +kernel
theorem dlaw_596 : decode code 596 = .ok (.dstore 7, 2) := by decide +kernel
theorem dlaw_598 : decode code 598 = .ok (.goto 116, 3) := by decide +kernel
theorem dlaw_601 : decode code 601 = .ok (.aload_n 1, 1) := by decide +kernel
theorem dlaw_602 : decode code 602 = .ok (.aload_n 3, 1) := by decide +kernel
theorem dlaw_603 : decode code 603 = .ok (.invokestatic 124, 3) := by decide +kernel
theorem dlaw_606 : decode code 606 = .ok (.istore 6, 2) := by decide +kernel
theorem dlaw_608 : decode code 608 = .ok (.aload_n 2, 1) := by decide +kernel
theorem dlaw_609 : decode code 609 = .ok (.invokevirtual 126, 3) := by decide +kernel
theorem dlaw_612 : decode code 612 = .ok (.istore 7, 2) := by decide +kernel
theorem dlaw_614 : decode code 614 = .ok (.goto 100, 3) := by decide +kernel
theorem dlaw_617 : decode code 617 = .ok (.aload_n 1, 1) := by decide +kernel
theorem dlaw_618 : decode code 618 = .ok (.aload_n 0, 1) := by decide +kernel
theorem dlaw_619 : decode code 619 = .ok (.iload 5, 2) := by decide +kernel
theorem dlaw_621 : decode code 621 = .ok (.iconst 1, 1) := by decide +kernel
theorem dlaw_622 : decode code 622 = .ok (.iadd, 1) := by decide +kernel
theorem dlaw_623 : decode code 623 = .ok (.iaload, 1) := by decide +kernel
theorem dlaw_624 : decode code 624 = .ok (.aload_n 0, 1) := by decide +kernel
theorem dlaw_625 : decode code 625 = .ok (.iload 5, 2) := by decide +kernel
theorem dlaw_627 : decode code 627 = .ok (.iconst 2, 1) := by decide +kernel
theorem dlaw_628 : decode code 628 = .ok (.iadd, 1) := by decide +kernel
theorem dlaw_629 : decode code 629 = .ok (.iaload, 1) := by decide +kernel
theorem dlaw_630 : decode code 630 = .ok (.aload_n 3, 1) := by decide +kernel
theorem dlaw_631 : decode code 631 = .ok (.invokestatic 127, 3) := by decide +kernel
theorem dlaw_634 : decode code 634 = .ok (.istore 6, 2) := by decide +kernel
theorem dlaw_636 : decode code 636 = .ok (.aload_n 2, 1) := by decide +kernel
theorem dlaw_637 : decode code 637 = .ok (.aload_n 0, 1) := by decide +kernel
theorem dlaw_638 : decode code 638 = .ok (.iload 5, 2) := by decide +kernel
theorem dlaw_640 : decode code 640 = .ok (.iconst 1, 1) := by decide +kernel
theorem dlaw_641 : decode code 641 = .ok (.iadd, 1) := by decide +kernel
theorem dlaw_642 : decode code 642 = .ok (.iaload, 1) := by decide +kernel
theorem dlaw_643 : decode code 643 = .ok (.aload_n 0, 1) := by decide +kernel
theorem dlaw_644 : decode code 644 = .ok (.iload 5, 2) := by decide +kernel
theorem dlaw_646 : decode code 646 = .ok (.iconst 2, 1) := by decide +kernel
theorem dlaw_647 : decode code 647 = .ok (.iadd, 1) := by decide +kernel
theorem dlaw_648 : decode code 648 = .ok (.iaload, 1) := by decide +kernel
theorem dlaw_649 : decode code 649 = .ok (.invokevirtual 130, 3) := by decide +kernel
theorem dlaw_652 : decode code 652 = .ok (.istore 7, 2) := by decide +kernel
theorem dlaw_654 : decode code 654 = .ok (.goto 60, 3) := by decide +kernel
theorem dlaw_657 : decode code 657 = .ok (.aload_n 1, 1) := by decide +kernel
theorem dlaw_658 : decode code 658 = .ok (.aload_n 0, 1) := by decide +kernel
theorem dlaw_659 : decode code 659 = .ok (.iload 5, 2) := by decide +kernel
theorem dlaw_661 : decode code 661 = .ok (.iconst 1, 1) := by decide +kernel
theorem dlaw_662 : decode code 662 = .ok (.iadd, 1) := by decide +kernel
theorem dlaw_663 : decode code 663 = .ok (.iaload, 1) := by decide +kernel
theorem dlaw_664 : decode code 664 = .ok (.aload 4, 2) := by decide +kernel
theorem dlaw_666 : decode code 666 = .ok (.invokestatic 131, 3) := by decide +kernel
theorem dlaw_669 : decode code 669 = .ok (.istore 6, 2) := by decide +kernel
theorem dlaw_671 : decode code 671 = .ok (.aload_n 2, 1) := by decide +kernel
theorem dlaw_672 : decode code 672 = .ok (.aload_n 0, 1) := by decide +kernel
theorem dlaw_673 : decode code 673 = .ok (.iload 5, 2) := by decide +kernel
theorem dlaw_675 : decode code 675 = .ok (.iconst 1, 1) := by decide +kernel
theorem dlaw_676 : decode code 676 = .ok (.iadd, 1) := by decide +kernel
theorem dlaw_677 : decode code 677 = .ok (.iaload, 1) := by decide +kernel
theorem dlaw_678 : decode code 678 = .ok (.invokevirtual 133, 3) := by decide +kernel
theorem dlaw_681 : decode code 681 = .ok (.dstore 7, 2) := by decide +kernel
theorem dlaw_683 : decode code 683 = .ok (.goto 31, 3) := by decide +kernel
theorem dlaw_686 : decode code 686 = .ok (.aload_n 1, 1) := by decide +kernel
theorem dlaw_687 : decode code 687 = .ok (.aload_n 0, 1) := by decide +kernel
theorem dlaw_688 : decode code 688 = .ok (.iload 5, 2) := by decide +kernel
theorem dlaw_690 : decode code 690 = .ok (.iconst 1, 1) := by decide +kernel
theorem dlaw_691 : decode code 691 = .ok (.iadd, 1) := by decide +kernel
theorem dlaw_692 : decode code 692 = .ok (.iaload, 1) := by decide +kernel
theorem dlaw_693 : decode code 693 = .ok (.aload_n 3, 1) := by decide +kernel
theorem dlaw_694 : decode code 694 = .ok (.invokestatic 134, 3) := by decide +kernel
theorem dlaw_697 : decode code 697 = .ok (.istore 6, 2) := by decide +kernel
theorem dlaw_699 : decode code 699 = .ok (.aload_n 2, 1) := by decide +kernel
theorem dlaw_700 : decode code 700 = .ok (.aload_n 0, 1) := by decide +kernel
theorem dlaw_701 : decode code 701 = .ok (.iload 5, 2) := by decide +kernel
theorem dlaw_703 : decode code 703 = .ok (.iconst 1, 1) := by decide +kernel
theorem dlaw_704 : decode code 704 = .ok (.iadd, 1) := by decide +kernel
theorem dlaw_705 : decode code 705 = .ok (.iaload, 1) := by decide +kernel
theorem dlaw_706 : decode code 706 = .ok (.invokevirtual 136, 3) := by decide +kernel
theorem dlaw_709 : decode code 709 = .ok (.istore 7, 2) := by decide +kernel
theorem dlaw_711 : decode code 711 = .ok (.goto 3, 3) := by decide +kernel
theorem dlaw_714 : decode code 714 = .ok (.iinc 5 4, 3) := by decide +kernel
theorem dlaw_717 : decode code 717 = .ok (.goto (-689), 3) := by decide +kernel
theorem dlaw_720 : decode code 720 = .ok (.iconst 1, 1) := by decide +kernel
theorem dlaw_721 : decode code 721 = .ok (.ireturn, 1) := by decide +kernel
