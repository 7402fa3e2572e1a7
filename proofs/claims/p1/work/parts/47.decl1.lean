theorem dlaw_0 : decode code 0 = .ok (.new 8, 3) := by decide +kernel
theorem dlaw_3 : decode code 3 = .ok (.dup, 1) := by decide +kernel
theorem dlaw_4 : decode code 4 = .ok (.invokespecial 68, 3) := by decide +kernel
theorem dlaw_7 : decode code 7 = .ok (.astore_n 1, 1) := by decide +kernel
theorem dlaw_8 : decode code 8 = .ok (.new 69, 3) := by decide +kernel
theorem dlaw_11 : decode code 11 = .ok (.dup, 1) := by decide +kernel
theorem dlaw_12 : decode code 12 = .ok (.invokespecial 71, 3) := by decide +kernel
theorem dlaw_15 : decode code 15 = .ok (.astore_n 2, 1) := by decide +kernel
theorem dlaw_16 : decode code 16 = .ok (.iconst 1, 1) := by decide +kernel
theorem dlaw_17 : decode code 17 = .ok (.newarray .long, 2) := by decide +kernel
theorem dlaw_19 : decode code 19 = .ok (.astore_n 3, 1) := by decide +kernel
theorem dlaw_20 : decode code 20 = .ok (.iconst 1, 1) := by decide +kernel
theorem dlaw_21 : decode code 21 = .ok (.newarray .double, 2) := by decide +kernel
theorem dlaw_23 : decode code 23 = .ok (.astore 4, 2) := by decide +kernel
theorem dlaw_25 : decode code 25 = .ok (.iconst 0, 1) := by decide +kernel
theorem dlaw_26 : decode code 26 = .ok (.istore 5, 2) := by decide +kernel
theorem dlaw_28 : decode code 28 = .ok (.iload 5, 2) := by decide +kernel
theorem dlaw_30 : decode code 30 = .ok (.aload_n 0, 1) := by decide +kernel
theorem dlaw_31 : decode code 31 = .ok (.arraylength, 1) := by decide +kernel
theorem dlaw_32 : decode code 32 = .ok (.iconst 4, 1) := by decide +kernel
theorem dlaw_33 : decode code 33 = .ok (.isub, 1) := by decide +kernel
theorem dlaw_34 : decode code 34 = .ok (.if_icmp .gt 1161, 3) := by decide +kernel
theorem dlaw_37 : decode code 37 = .ok (.aload_n 0, 1) := by decide +kernel
theorem dlaw_38 : decode code 38 = .ok (.iload 5, 2) := by decide +kernel
theorem dlaw_40 : decode code 40 = .ok (.iaload, 1) := by decide +kernel
theorem dlaw_41 : decode code 41 = .ok (.bipush 15, 2) := by decide +kernel
theorem dlaw_43 : decode code 43 = .ok (.iand, 1) := by decide +kernel
theorem dlaw_44 : decode code 44 = .ok (.tableswitch 1145 0 15 #[80, 180, 224, 237, 327, 340, 417, 506, 595, 675, 755, 811, 900, 944, 1012, 1089], 80) := by decide +kernel
theorem dlaw_124 : decode code 124 = .ok (.aload_n 1, 1) := by decide +kernel
theorem dlaw_125 : decode code 125 = .ok (.aload_n 0, 1) := by decide +kernel
theorem dlaw_126 : decode code 126 = .ok (.iload 5, 2) := by decide +kernel
theorem dlaw_128 : decode code 128 = .ok (.iconst 1, 1) := by decide +kernel
theorem dlaw_129 : decode code 129 = .ok (.iadd, 1) := by decide +kernel
theorem dlaw_130 : decode code 130 = .ok (.iaload, 1) := by decide +kernel
theorem dlaw_131 : decode code 131 = .ok (.aload_n 0, 1) := by decide +kernel
theorem dlaw_132 : decode code 132 = .ok (.iload 5, 2) := by decide +kernel
theorem dlaw_134 : decode code 134 = .ok (.iconst 2, 1) := by decide +kernel
theorem dlaw_135 : decode code 135 = .ok (.iadd, 1) := by decide +kernel
theorem dlaw_136 : decode code 136 = .ok (.iaload, 1) := by decide +kernel
theorem dlaw_137 : decode code 137 = .ok (.i2l, 1) := by decide +kernel
theorem dlaw_138 : decode code 138 = .ok (.bipush 32, 2) := by decide +kernel
theorem dlaw_140 : decode code 140 = .ok (.lshl, 1) := by decide +kernel
theorem dlaw_141 : decode code 141 = .ok (.aload_n 0, 1) := by decide +kernel
theorem dlaw_142 : decode code 142 = .ok (.iload 5, 2) := by decide +kernel
theorem dlaw_144 : decode code 144 = .ok (.iconst 3, 1) := by decide +kernel
theorem dlaw_145 : decode code 145 = .ok (.iadd, 1) := by decide +kernel
theorem dlaw_146 : decode code 146 = .ok (.iaload, 1) := by decide +kernel
theorem dlaw_147 : decode code 147 = .ok (.i2l, 1) := by decide +kernel
theorem dlaw_148 : decode code 148 = .ok (.ldc2_w 72, 3) := by decide +kernel
theorem dlaw_151 : decode code 151 = .ok (.land, 1) := by decide +kernel
theorem dlaw_152 : decode code 152 = .ok (.lor, 1) := by decide +kernel
theorem dlaw_153 : decode code 153 = .ok (.aload_n 3, 1) := by decide +kernel
theorem dlaw_154 : decode code 154 = .ok (.invokestatic 74, 3) := by decide +kernel
theorem dlaw_157 : decode code 157 = .ok (.istore 6, 2) := by decide +kernel
theorem dlaw_159 : decode code 159 = .ok (.aload_n 2, 1) := by decide +kernel
theorem dlaw_160 : decode code 160 = .ok (.aload_n 0, 1) := by decide +kernel
theorem dlaw_161 : decode code 161 = .ok (.iload 5, 2) := by decide +kernel
theorem dlaw_163 : decode code 163 = .ok (.iconst 1, 1) := by decide +kernel
theorem dlaw_164 : decode code 164 = .ok (.iadd, 1) := by decide +kernel
theorem dlaw_165 : decode code 165 = .ok (.iaload, 1) := by decide +kernel
theorem dlaw_166 : decode code 166 = .ok (.aload_n 0, 1) := by decide +kernel
theorem dlaw_167 : decode code 167 = .ok (.iload 5, 2) := by decide +kernel
theorem dlaw_169 : decode code 169 = .ok (.iconst 2, 1) := by decide +kernel
theorem dlaw_170 : decode code 170 = .ok (.iadd, 1) := by decide +kernel
theorem dlaw_171 : decode code 171 = .ok (.iaload, 1) := by decide +kernel
theorem dlaw_172 : decode code 172 = .ok (.i2l, 1) := by decide +kernel
theorem dlaw_173 : decode code 173 = .ok (.bipush 32, 2) := by decide +kernel
theorem dlaw_175 : decode code 175 = .ok (.lshl, 1) := by decide +kernel
theorem dlaw_176 : decode code 176 = .ok (.aload_n 0, 1) := by decide +kernel
theorem dlaw_177 : decode code 177 = .ok (.iload 5, 2) := by decide +kernel
theorem dlaw_179 : decode code 179 = .ok (.iconst 3, 1) := by decide +kernel
theorem dlaw_180 : decode code 180 = .ok (.iadd, 1) := by decide +kernel
theorem dlaw_181 : decode code 181 = .ok (.iaload, 1) := by decide +kernel
theorem dlaw_182 : decode code 182 = .ok (.i2l, 1) := by decide +kernel
theorem dlaw_183 : decode code 183 = .ok (.ldc2_w 72, 3) := by decide +kernel
theorem dlaw_186 : decode code 186 = .ok (.land, 1) := by decide +kernel
theorem dlaw_187 : decode code 187 = .ok (.lor, 1) := by decide +kernel
theorem dlaw_188 : decode code 188 = .ok (.invokevirtual 79, 3) := by decide +kernel
theorem dlaw_191 : decode code 191 = .ok (.istore 7, 2) := by decide +kernel
theorem dlaw_193 : decode code 193 = .ok (.aload_n 2, 1) := by decide +kernel
theorem dlaw_194 : decode code 194 = .ok (.invokevirtual 80, 3) := by decide +kernel
theorem dlaw_197 : decode code 197 = .ok (.iload 6, 2) := by decide +kernel
theorem dlaw_199 : decode code 199 = .ok (.if_icmp .eq 5, 3) := by decide +kernel
theorem dlaw_202 : decode code 202 = .ok (.iconst 0, 1) := by decide +kernel
theorem dlaw_203 : decode code 203 = .ok (.ireturn, 1) := by decide +kernel
theorem dlaw_204 : decode code 204 = .ok (.iload 6, 2) := by decide +kernel
theorem dlaw_206 : decode code 206 = .ok (.ifCond .ne 15, 3) := by decide +kernel
theorem dlaw_209 : decode code 209 = .ok (.aload_n 3, 1) := by decide +kernel
theorem dlaw_210 : decode code 210 = .ok (.iconst 0, 1) := by decide +kernel
theorem dlaw_211 : decode code 211 = .ok (.laload, 1) := by decide +kernel
theorem dlaw_212 : decode code 212 = .ok (.iload 7, 2) := by decide +kernel
theorem dlaw_214 : decode code 214 = .ok (.i2l, 1) := by decide +kernel
theorem dlaw_215 : decode code 215 = .ok (.lcmp, 1) := by decide +kernel
theorem dlaw_216 : decode code 216 = .ok (.ifCond .eq 5, 3) := by decide +kernel
theorem dlaw_219 : decode code 219 = .ok (.iconst 0, 1) := by decide +kernel
theorem dlaw_220 : decode code 220 = .ok (.ireturn, 1) := by decide +kernel
theorem dlaw_221 : decode code 221 = .ok (.goto 968, 3) := by decide +kernel
theorem dlaw_224 : decode code 224 = .ok (.aload_n 1, 1) := by decide +kernel
theorem dlaw_225 : decode code 225 = .ok (.aload_n 3, 1) := by decide +kernel
theorem dlaw_226 : decode code 226 = .ok (.invokestatic 83, 3) := by decide +kernel
theorem dlaw_229 : decode code 229 = .ok (.istore 6, 2) := by decide +kernel
theorem dlaw_231 : decode code 231 = .ok (.aload_n 2, 1) := by decide +kernel
theorem dlaw_232 : decode code 232 = .ok (.invokevirtual 86, 3) := by decide +kernel
theorem dlaw_235 : decode code 235 = .ok (.istore 7, 2) := by decide +kernel
theorem dlaw_237 : decode code 237 = .ok (.aload_n 2, 1) := by decide +kernel
theorem dlaw_238 : decode code 238 = .ok (.invokevirtual 80, 3) := by decide +kernel
theorem dlaw_241 : decode code 241 = .ok (.iload 6, 2) := by decide +kernel
theorem dlaw_243 : decode code 243 = .ok (.if_icmp .eq 5, 3) := by decide +kernel
theorem dlaw_246 : decode code 246 = .ok (.iconst 0, 1) := by decide +kernel
theorem dlaw_247 : decode code 247 = .ok (.ireturn, 1) := by decide +kernel
theorem dlaw_248 : decode code 248 = .ok (.iload 6, 2) := by decide +kernel
theorem dlaw_250 : decode code 250 = .ok (.ifCond .ne 15, 3) := by decide +kernel
theorem dlaw_253 : decode code 253 = .ok (.aload_n 3, 1) := by decide +kernel
theorem dlaw_254 : decode code 254 = .ok (.iconst 0, 1) := by decide +kernel
theorem dlaw_255 : decode code 255 = .ok (.laload, 1) := by decide +kernel
theorem dlaw_256 : decode code 256 = .ok (.iload 7, 2) := by decide +kernel
theorem dlaw_258 : decode code 258 = .ok (.i2l, 1) := by decide +kernel
theorem dlaw_259 : decode code 259 = .ok (.lcmp, 1) := by decide +kernel
theorem dlaw_260 : decode code 260 = .ok (.ifCond .eq 5, 3) := by decide +kernel
theorem dlaw_263 : decode code 263 = .ok (.iconst 0, 1) := by decide +kernel
theorem dlaw_264 : decode code 264 = .ok (.ireturn, 1) := by decide +kernel
theorem dlaw_265 : decode code 265 = .ok (.goto 924, 3) := by decide +kernel
theorem dlaw_268 : decode code 268 = .ok (.aload_n 1, 1) := by decide +kernel
theorem dlaw_269 : decode code 269 = .ok (.invokevirtual 87, 3) := by decide +kernel
theorem dlaw_272 : decode code 272 = .ok (.aload_n 2, 1) := by decide +kernel
theorem dlaw_273 : decode code 273 = .ok (.invokevirtual 90, 3) := by decide +kernel
theorem dlaw_276 : decode code 276 = .ok (.if_icmp .eq 913, 3) := by decide +kernel
theorem dlaw_279 : decode code 279 = .ok (.iconst 0, 1) := by decide +kernel
theorem dlaw_280 : decode code 280 = .ok (.ireturn, 1) := by decide +kernel
theorem dlaw_281 : decode code 281 = .ok (.aload_n 1, 1) := by decide +kernel
theorem dlaw_282 : decode code 282 = .ok (.aload_n 0, 1) := by decide +kernel
theorem dlaw_283 : decode code 283 = .ok (.iload 5, 2) := by decide +kernel
theorem dlaw_285 : decode code 285 = .ok (.iconst 1, 1) := by decide +kernel
theorem dlaw_286 : decode code 286 = .ok (.iadd, 1) := by decide +kernel
theorem dlaw_287 : decode code 287 = .ok (.iaload, 1) := by decide +kernel
theorem dlaw_288 : decode code 288 = .ok (.aload_n 0, 1) := by decide +kernel
theorem dlaw_289 : decode code 289 = .ok (.iload 5, 2) := by decide +kernel
theorem dlaw_291 : decode code 291 = .ok (.iconst 2, 1) := by decide +kernel
theorem dlaw_292 : decode code 292 = .ok (.iadd, 1) := by decide +kernel
theorem dlaw_293 : decode code 293 = .ok (.iaload, 1) := by decide +kernel
theorem dlaw_294 : decode code 294 = .ok (.aload_n 0, 1) := by decide +kernel
theorem dlaw_295 : decode code 295 = .ok (.iload 5, 2) := by decide +kernel
theorem dlaw_297 : decode code 297 = .ok (.iconst 3, 1) := by decide +kernel
theorem dlaw_298 : decode code 298 = .ok (.iadd, 1) := by decide +kernel
theorem dlaw_299 : decode code 299 = .ok (.iaload, 1) := by decide +kernel
theorem dlaw_300 : decode code 300 = .ok (.i2d, 1) := by decide +kernel
theorem dlaw_301 : decode code 301 = .ok (.ldc2_w 91, 3) := by decide +kernel
theorem dlaw_304 : decode code 304 = .ok (.dmul, 1) := by decide +kernel
theorem dlaw_305 : decode code 305 = .ok (.aload_n 3, 1) := by decide +kernel
theorem dlaw_306 : decode code 306 = .ok (.invokestatic 93, 3) := by decide +kernel
theorem dlaw_309 : decode code 309 = .ok (.istore 6, 2) := by decide +kernel
theorem dlaw_311 : decode code 311 = .ok (.aload_n 2, 1) := by decide +kernel
theorem dlaw_312 : decode code 312 = .ok (.aload_n 0, 1) := by decide +kernel
theorem dlaw_313 : decode code 313 = .ok (.iload 5, 2) := by decide +kernel
theorem dlaw_315 : decode code 315 = .ok (.iconst 1, 1) := by decide +kernel
theorem dlaw_316 : decode code 316 = .ok (.iadd, 1) := by decide +kernel
theorem dlaw_317 : decode code 317 = .ok (.iaload, 1) := by decide +kernel
theorem dlaw_318 : decode code 318 = .ok (.aload_n 0, 1) := by decide +kernel
theorem dlaw_319 : decode code 319 = .ok (.iload 5, 2) := by decide +kernel
theorem dlaw_321 : decode code 321 = .ok (.iconst 2, 1) := by decide +kernel
theorem dlaw_322 : decode code 322 = .ok (.iadd, 1) := by decide +kernel
theorem dlaw_323 : decode code 323 = .ok (.iaload, 1) := by decide +kernel
theorem dlaw_324 : decode code 324 = .ok (.aload_n 0, 1) := by decide +kernel
theorem dlaw_325 : decode code 325 = .ok (.iload 5, 2) := by decide +kernel
theorem dlaw_327 : decode code 327 = .ok (.iconst 3, 1) := by decide +kernel
theorem dlaw_328 : decode code 328 = .ok (.iadd, 1) := by decide +kernel
theorem dlaw_329 : decode code 329 = .ok (.iaload, 1) := by decide +kernel
theorem dlaw_330 : decode code 330 = .ok (.i2d, 1) := by decide +kernel
theorem dlaw_331 : decode code 331 = .ok (.ldc2_w 91, 3) := by decide +kernel
theorem dlaw_334 : decode code 334 = .ok (.dmul, 1) := by decide +kernel
theorem dlaw_335 : decode code 335 = .ok (.invokevirtual 96, 3) := by decide +kernel
theorem dlaw_338 : decode code 338 = .ok (.istore 7, 2) := by decide +kernel
theorem dlaw_340 : decode code 340 = .ok (.aload_n 2, 1) := by decide +kernel
theorem dlaw_341 : decode code 341 = .ok (.invokevirtual 80, 3) := by decide +kernel
theorem dlaw_344 : decode code 344 = .ok (.iload 6, 2) := by decide +kernel
theorem dlaw_346 : decode code 346 = .ok (.if_icmp .eq 5, 3) := by decide +kernel
theorem dlaw_349 : decode code 349 = .ok (.iconst 0, 1) := by decide +kernel
theorem dlaw_350 : decode code 350 = .ok (.ireturn, 1) := by decide +kernel
theorem dlaw_351 : decode code 351 = .ok (.iload 6, 2) := by decide +kernel
theorem dlaw_353 : decode code 353 = .ok (.ifCond .ne 15, 3) := by decide +kernel
theorem dlaw_356 : decode code 356 = .ok (.aload_n 3, 1) := by decide +kernel
theorem dlaw_357 : decode code 357 = .ok (.iconst 0, 1) := by decide +kernel
theorem dlaw_358 : decode code 358 = .ok (.laload, 1) := by decide +kernel
theorem dlaw_359 : decode code 359 = .ok (.iload 7, 2) := by decide +kernel
theorem dlaw_361 : decode code 361 = .ok (.i2l, 1) := by decide +kernel
theorem dlaw_362 : decode code 362 = .ok (.lcmp, 1) := by decide +kernel
theorem dlaw_363 : decode code 363 = .ok (.ifCond .eq 5, 3) := by decide +kernel
theorem dlaw_366 : decode code 366 = .ok (.iconst 0, 1) := by decide +kernel
theorem dlaw_367 : decode code 367 = .ok (.ireturn, 1) := by decide +kernel
theorem dlaw_368 : decode code 368 = .ok (.goto 821, 3) := by decide +kernel
theorem dlaw_371 : decode code 371 = .ok (.aload_n 1, 1) := by decide +kernel
theorem dlaw_372 : decode code 372 = .ok (.invokevirtual 97, 3) := by decide +kernel
theorem dlaw_375 : decode code 375 = .ok (.aload_n 2, 1) := by decide +kernel
theorem dlaw_376 : decode code 376 = .ok (.invokevirtual 100, 3) := by decide +kernel
theorem dlaw_379 : decode code 379 = .ok (.if_icmp .eq 810, 3) := by decide +kernel
theorem dlaw_382 : decode code 382 = .ok (.iconst 0, 1) := by decide +kernel
theorem dlaw_383 : decode code 383 = .ok (.ireturn, 1) := by decide +kernel
theorem dlaw_384 : decode code 384 = .ok (.aload_n 1, 1) := by decide +kernel
theorem dlaw_385 : decode code 385 = .ok (.aload_n 0, 1) := by decide +kernel
theorem dlaw_386 : decode code 386 = .ok (.iload 5, 2) := by decide +kernel
theorem dlaw_388 : decode code 388 = .ok (.iconst 1, 1) := by decide +kernel
theorem dlaw_389 : decode code 389 = .ok (.iadd, 1) := by decide +kernel
theorem dlaw_390 : decode code 390 = .ok (.iaload, 1) := by decide +kernel
theorem dlaw_391 : decode code 391 = .ok (.aload 4, 2) := by decide +kernel
theorem dlaw_393 : decode code 393 = .ok (.invokestatic 101, 3) := by decide +kernel
theorem dlaw_396 : decode code 396 = .ok (.istore 6, 2) := by decide +kernel
theorem dlaw_398 : decode code 398 = .ok (.aload_n 2, 1) := by decide +kernel
theorem dlaw_399 : decode code 399 = .ok (.aload_n 0, 1) := by decide +kernel
