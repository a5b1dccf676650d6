abbrev M_Law_law : MethodName × ByteArray × Nat × Option FieldType := (⟨"KeyCodecLaw", "law", "([I)Z"⟩, code, 7, some .boolean)
theorem d_Law_law_0 : decode code 0 = .ok (.new 8, 3) := by decide +kernel
theorem d_Law_law_3 : decode code 3 = .ok (.dup, 1) := by decide +kernel
theorem d_Law_law_4 : decode code 4 = .ok (.invokespecial 28, 3) := by decide +kernel
theorem d_Law_law_7 : decode code 7 = .ok (.astore_n 1, 1) := by decide +kernel
theorem d_Law_law_8 : decode code 8 = .ok (.new 29, 3) := by decide +kernel
theorem d_Law_law_11 : decode code 11 = .ok (.dup, 1) := by decide +kernel
theorem d_Law_law_12 : decode code 12 = .ok (.invokespecial 31, 3) := by decide +kernel
theorem d_Law_law_15 : decode code 15 = .ok (.astore_n 2, 1) := by decide +kernel
theorem d_Law_law_16 : decode code 16 = .ok (.iconst 1, 1) := by decide +kernel
theorem d_Law_law_17 : decode code 17 = .ok (.newarray .long, 2) := by decide +kernel
theorem d_Law_law_19 : decode code 19 = .ok (.astore_n 3, 1) := by decide +kernel
theorem d_Law_law_20 : decode code 20 = .ok (.iconst 0, 1) := by decide +kernel
theorem d_Law_law_21 : decode code 21 = .ok (.istore 4, 2) := by decide +kernel
theorem d_Law_law_23 : decode code 23 = .ok (.iload 4, 2) := by decide +kernel
theorem d_Law_law_25 : decode code 25 = .ok (.aload_n 0, 1) := by decide +kernel
theorem d_Law_law_26 : decode code 26 = .ok (.arraylength, 1) := by decide +kernel
theorem d_Law_law_27 : decode code 27 = .ok (.iconst 5, 1) := by decide +kernel
theorem d_Law_law_28 : decode code 28 = .ok (.isub, 1) := by decide +kernel
theorem d_Law_law_29 : decode code 29 = .ok (.if_icmp .gt 960, 3) := by decide +kernel
theorem d_Law_law_32 : decode code 32 = .ok (.aload_n 0, 1) := by decide +kernel
theorem d_Law_law_33 : decode code 33 = .ok (.iload 4, 2) := by decide +kernel
theorem d_Law_law_35 : decode code 35 = .ok (.iaload, 1) := by decide +kernel
theorem d_Law_law_36 : decode code 36 = .ok (.bipush 31, 2) := by decide +kernel
theorem d_Law_law_38 : decode code 38 = .ok (.iand, 1) := by decide +kernel
theorem d_Law_law_39 : decode code 39 = .ok (.tableswitch 944 0 22 #[105, 173, 186, 197, 278, 315, 340, 378, 422, 491, 502, 527, 578, 622, 647, 660, 697, 734, 759, 784, 821, 882, 919], 105) := by decide +kernel
theorem d_Law_law_144 : decode code 144 = .ok (.aload_n 1, 1) := by decide +kernel
theorem d_Law_law_145 : decode code 145 = .ok (.aload_n 0, 1) := by decide +kernel
theorem d_Law_law_146 : decode code 146 = .ok (.iload 4, 2) := by decide +kernel
theorem d_Law_law_148 : decode code 148 = .ok (.iconst 1, 1) := by decide +kernel
theorem d_Law_law_149 : decode code 149 = .ok (.iadd, 1) := by decide +kernel
theorem d_Law_law_150 : decode code 150 = .ok (.iaload, 1) := by decide +kernel
theorem d_Law_law_151 : decode code 151 = .ok (.aload_n 0, 1) := by decide +kernel
theorem d_Law_law_152 : decode code 152 = .ok (.iload 4, 2) := by decide +kernel
theorem d_Law_law_154 : decode code 154 = .ok (.iconst 2, 1) := by decide +kernel
theorem d_Law_law_155 : decode code 155 = .ok (.iadd, 1) := by decide +kernel
theorem d_Law_law_156 : decode code 156 = .ok (.iaload, 1) := by decide +kernel
theorem d_Law_law_157 : decode code 157 = .ok (.aload_n 3, 1) := by decide +kernel
theorem d_Law_law_158 : decode code 158 = .ok (.invokestatic 32, 3) := by decide +kernel
theorem d_Law_law_161 : decode code 161 = .ok (.istore 5, 2) := by decide +kernel
theorem d_Law_law_163 : decode code 163 = .ok (.aload_n 2, 1) := by decide +kernel
theorem d_Law_law_164 : decode code 164 = .ok (.aload_n 0, 1) := by decide +kernel
theorem d_Law_law_165 : decode code 165 = .ok (.iload 4, 2) := by decide +kernel
theorem d_Law_law_167 : decode code 167 = .ok (.iconst 1, 1) := by decide +kernel
theorem d_Law_law_168 : decode code 168 = .ok (.iadd, 1) := by decide +kernel
theorem d_Law_law_169 : decode code 169 = .ok (.iaload, 1) := by decide +kernel
theorem d_Law_law_170 : decode code 170 = .ok (.aload_n 0, 1) := by decide +kernel
theorem d_Law_law_171 : decode code 171 = .ok (.iload 4, 2) := by decide +kernel
theorem d_Law_law_173 : decode code 173 = .ok (.iconst 2, 1) := by decide +kernel
theorem d_Law_law_174 : decode code 174 = .ok (.iadd, 1) := by decide +kernel
theorem d_Law_law_175 : decode code 175 = .ok (.iaload, 1) := by decide +kernel
theorem d_Law_law_176 : decode code 176 = .ok (.invokevirtual 37, 3) := by decide +kernel
theorem d_Law_law_179 : decode code 179 = .ok (.istore 6, 2) := by decide +kernel
theorem d_Law_law_181 : decode code 181 = .ok (.aload_n 2, 1) := by decide +kernel
theorem d_Law_law_182 : decode code 182 = .ok (.invokevirtual 38, 3) := by decide +kernel
theorem d_Law_law_185 : decode code 185 = .ok (.iload 5, 2) := by decide +kernel
theorem d_Law_law_187 : decode code 187 = .ok (.if_icmp .eq 5, 3) := by decide +kernel
theorem d_Law_law_190 : decode code 190 = .ok (.iconst 0, 1) := by decide +kernel
theorem d_Law_law_191 : decode code 191 = .ok (.ireturn, 1) := by decide +kernel
theorem d_Law_law_192 : decode code 192 = .ok (.iload 5, 2) := by decide +kernel
theorem d_Law_law_194 : decode code 194 = .ok (.ifCond .ne 15, 3) := by decide +kernel
theorem d_Law_law_197 : decode code 197 = .ok (.aload_n 3, 1) := by decide +kernel
theorem d_Law_law_198 : decode code 198 = .ok (.iconst 0, 1) := by decide +kernel
theorem d_Law_law_199 : decode code 199 = .ok (.laload, 1) := by decide +kernel
theorem d_Law_law_200 : decode code 200 = .ok (.iload 6, 2) := by decide +kernel
theorem d_Law_law_202 : decode code 202 = .ok (.i2l, 1) := by decide +kernel
theorem d_Law_law_203 : decode code 203 = .ok (.lcmp, 1) := by decide +kernel
theorem d_Law_law_204 : decode code 204 = .ok (.ifCond .eq 5, 3) := by decide +kernel
theorem d_Law_law_207 : decode code 207 = .ok (.iconst 0, 1) := by decide +kernel
theorem d_Law_law_208 : decode code 208 = .ok (.ireturn, 1) := by decide +kernel
theorem d_Law_law_209 : decode code 209 = .ok (.goto 774, 3) := by decide +kernel
theorem d_Law_law_212 : decode code 212 = .ok (.aload_n 1, 1) := by decide +kernel
theorem d_Law_law_213 : decode code 213 = .ok (.invokevirtual 41, 3) := by decide +kernel
theorem d_Law_law_216 : decode code 216 = .ok (.aload_n 2, 1) := by decide +kernel
theorem d_Law_law_217 : decode code 217 = .ok (.invokevirtual 44, 3) := by decide +kernel
theorem d_Law_law_220 : decode code 220 = .ok (.if_icmp .eq 763, 3) := by decide +kernel
theorem d_Law_law_223 : decode code 223 = .ok (.iconst 0, 1) := by decide +kernel
theorem d_Law_law_224 : decode code 224 = .ok (.ireturn, 1) := by decide +kernel
theorem d_Law_law_225 : decode code 225 = .ok (.aload_n 1, 1) := by decide +kernel
theorem d_Law_law_226 : decode code 226 = .ok (.invokevirtual 45, 3) := by decide +kernel
theorem d_Law_law_229 : decode code 229 = .ok (.aload_n 2, 1) := by decide +kernel
theorem d_Law_law_230 : decode code 230 = .ok (.invokevirtual 48, 3) := by decide +kernel
theorem d_Law_law_233 : decode code 233 = .ok (.goto 750, 3) := by decide +kernel
theorem d_Law_law_236 : decode code 236 = .ok (.aload_n 1, 1) := by decide +kernel
theorem d_Law_law_237 : decode code 237 = .ok (.aload_n 0, 1) := by decide +kernel
theorem d_Law_law_238 : decode code 238 = .ok (.iload 4, 2) := by decide +kernel
theorem d_Law_law_240 : decode code 240 = .ok (.iconst 1, 1) := by decide +kernel
theorem d_Law_law_241 : decode code 241 = .ok (.iadd, 1) := by decide +kernel
theorem d_Law_law_242 : decode code 242 = .ok (.iaload, 1) := by decide +kernel
theorem d_Law_law_243 : decode code 243 = .ok (.aload_n 0, 1) := by decide +kernel
theorem d_Law_law_244 : decode code 244 = .ok (.iload 4, 2) := by decide +kernel
theorem d_Law_law_246 : decode code 246 = .ok (.iconst 2, 1) := by decide +kernel
theorem d_Law_law_247 : decode code 247 = .ok (.iadd, 1) := by decide +kernel
theorem d_Law_law_248 : decode code 248 = .ok (.iaload, 1) := by decide +kernel
theorem d_Law_law_249 : decode code 249 = .ok (.i2l, 1) := by decide +kernel
theorem d_Law_law_250 : decode code 250 = .ok (.bipush 32, 2) := by decide +kernel
theorem d_Law_law_252 : decode code 252 = .ok (.lshl, 1) := by decide +kernel
theorem d_Law_law_253 : decode code 253 = .ok (.aload_n 0, 1) := by decide +kernel
theorem d_Law_law_254 : decode code 254 = .ok (.iload 4, 2) := by decide +kernel
theorem d_Law_law_256 : decode code 256 = .ok (.iconst 3, 1) := by decide +kernel
theorem d_Law_law_257 : decode code 257 = .ok (.iadd, 1) := by decide +kernel
theorem d_Law_law_258 : decode code 258 = .ok (.iaload, 1) := by decide +kernel
theorem d_Law_law_259 : decode code 259 = .ok (.i2l, 1) := by decide +kernel
theorem d_Law_law_260 : decode code 260 = .ok (.ldc2_w 49, 3) := by decide +kernel
theorem d_Law_law_263 : decode code 263 = .ok (.land, 1) := by decide +kernel
theorem d_Law_law_264 : decode code 264 = .ok (.lor, 1) := by decide +kernel
theorem d_Law_law_265 : decode code 265 = .ok (.aload_n 0, 1) := by decide +kernel
theorem d_Law_law_266 : decode code 266 = .ok (.iload 4, 2) := by decide +kernel
theorem d_Law_law_268 : decode code 268 = .ok (.iconst 4, 1) := by decide +kernel
theorem d_Law_law_269 : decode code 269 = .ok (.iadd, 1) := by decide +kernel
theorem d_Law_law_270 : decode code 270 = .ok (.iaload, 1) := by decide +kernel
theorem d_Law_law_271 : decode code 271 = .ok (.invokevirtual 51, 3) := by decide +kernel
theorem d_Law_law_274 : decode code 274 = .ok (.aload_n 2, 1) := by decide +kernel
theorem d_Law_law_275 : decode code 275 = .ok (.aload_n 0, 1) := by decide +kernel
theorem d_Law_law_276 : decode code 276 = .ok (.iload 4, 2) := by decide +kernel
theorem d_Law_law_278 : decode code 278 = .ok (.iconst 1, 1) := by decide +kernel
theorem d_Law_law_279 : decode code 279 = .ok (.iadd, 1) := by decide +kernel
theorem d_Law_law_280 : decode code 280 = .ok (.iaload, 1) := by decide +kernel
theorem d_Law_law_281 : decode code 281 = .ok (.aload_n 0, 1) := by decide +kernel
theorem d_Law_law_282 : decode code 282 = .ok (.iload 4, 2) := by decide +kernel
theorem d_Law_law_284 : decode code 284 = .ok (.iconst 2, 1) := by decide +kernel
theorem d_Law_law_285 : decode code 285 = .ok (.iadd, 1) := by decide +kernel
theorem d_Law_law_286 : decode code 286 = .ok (.iaload, 1) := by decide +kernel
theorem d_Law_law_287 : decode code 287 = .ok (.i2l, 1) := by decide +kernel
theorem d_Law_law_288 : decode code 288 = .ok (.bipush 32, 2) := by decide +kernel
theorem d_Law_law_290 : decode code 290 = .ok (.lshl, 1) := by decide +kernel
theorem d_Law_law_291 : decode code 291 = .ok (.aload_n 0, 1) := by decide +kernel
theorem d_Law_law_292 : decode code 292 = .ok (.iload 4, 2) := by decide +kernel
theorem d_Law_law_294 : decode code 294 = .ok (.iconst 3, 1) := by decide +kernel
theorem d_Law_law_295 : decode code 295 = .ok (.iadd, 1) := by decide +kernel
theorem d_Law_law_296 : decode code 296 = .ok (.iaload, 1) := by decide +kernel
theorem d_Law_law_297 : decode code 297 = .ok (.i2l, 1) := by decide +kernel
theorem d_Law_law_298 : decode code 298 = .ok (.ldc2_w 49, 3) := by decide +kernel
theorem d_Law_law_301 : decode code 301 = .ok (.land, 1) := by decide +kernel
theorem d_Law_law_302 : decode code 302 = .ok (.lor, 1) := by decide +kernel
theorem d_Law_law_303 : decode code 303 = .ok (.aload_n 0, 1) := by decide +kernel
theorem d_Law_law_304 : decode code 304 = .ok (.iload 4, 2) := by decide +kernel
theorem d_Law_law_306 : decode code 306 = .ok (.iconst 4, 1) := by decide +kernel
theorem d_Law_law_307 : decode code 307 = .ok (.iadd, 1) := by decide +kernel
theorem d_Law_law_308 : decode code 308 = .ok (.iaload, 1) := by decide +kernel
theorem d_Law_law_309 : decode code 309 = .ok (.invokevirtual 55, 3) := by decide +kernel
theorem d_Law_law_312 : decode code 312 = .ok (.if_icmp .eq 671, 3) := by decide +kernel
theorem d_Law_law_315 : decode code 315 = .ok (.iconst 0, 1) := by decide +kernel
theorem d_Law_law_316 : decode code 316 = .ok (.ireturn, 1) := by decide +kernel
theorem d_Law_law_317 : decode code 317 = .ok (.aload_n 1, 1) := by decide +kernel
theorem d_Law_law_318 : decode code 318 = .ok (.aload_n 0, 1) := by decide +kernel
theorem d_Law_law_319 : decode code 319 = .ok (.iload 4, 2) := by decide +kernel
theorem d_Law_law_321 : decode code 321 = .ok (.iconst 1, 1) := by decide +kernel
theorem d_Law_law_322 : decode code 322 = .ok (.iadd, 1) := by decide +kernel
theorem d_Law_law_323 : decode code 323 = .ok (.iaload, 1) := by decide +kernel
theorem d_Law_law_324 : decode code 324 = .ok (.aload_n 0, 1) := by decide +kernel
theorem d_Law_law_325 : decode code 325 = .ok (.iload 4, 2) := by decide +kernel
theorem d_Law_law_327 : decode code 327 = .ok (.iconst 2, 1) := by decide +kernel
theorem d_Law_law_328 : decode code 328 = .ok (.iadd, 1) := by decide +kernel
theorem d_Law_law_329 : decode code 329 = .ok (.iaload, 1) := by decide +kernel
theorem d_Law_law_330 : decode code 330 = .ok (.invokevirtual 56, 3) := by decide +kernel
theorem d_Law_law_333 : decode code 333 = .ok (.aload_n 2, 1) := by decide +kernel
theorem d_Law_law_334 : decode code 334 = .ok (.aload_n 0, 1) := by decide +kernel
theorem d_Law_law_335 : decode code 335 = .ok (.iload 4, 2) := by decide +kernel
theorem d_Law_law_337 : decode code 337 = .ok (.iconst 1, 1) := by decide +kernel
theorem d_Law_law_338 : decode code 338 = .ok (.iadd, 1) := by decide +kernel
theorem d_Law_law_339 : decode code 339 = .ok (.iaload, 1) := by decide +kernel
theorem d_Law_law_340 : decode code 340 = .ok (.aload_n 0, 1) := by decide +kernel
theorem d_Law_law_341 : decode code 341 = .ok (.iload 4, 2) := by decide +kernel
theorem d_Law_law_343 : decode code 343 = .ok (.iconst 2, 1) := by decide +kernel
theorem d_Law_law_344 : decode code 344 = .ok (.iadd, 1) := by decide +kernel
theorem d_Law_law_345 : decode code 345 = .ok (.iaload, 1) := by decide +kernel
theorem d_Law_law_346 : decode code 346 = .ok (.invokevirtual 60, 3) := by decide +kernel
theorem d_Law_law_349 : decode code 349 = .ok (.if_icmp .eq 634, 3) := by decide +kernel
theorem d_Law_law_352 : decode code 352 = .ok (.iconst 0, 1) := by decide +kernel
theorem d_Law_law_353 : decode code 353 = .ok (.ireturn, 1) := by decide +kernel
theorem d_Law_law_354 : decode code 354 = .ok (.aload_n 1, 1) := by decide +kernel
theorem d_Law_law_355 : decode code 355 = .ok (.aload_n 0, 1) := by decide +kernel
theorem d_Law_law_356 : decode code 356 = .ok (.iload 4, 2) := by decide +kernel
theorem d_Law_law_358 : decode code 358 = .ok (.iconst 1, 1) := by decide +kernel
theorem d_Law_law_359 : decode code 359 = .ok (.iadd, 1) := by decide +kernel
theorem d_Law_law_360 : decode code 360 = .ok (.iaload, 1) := by decide +kernel
theorem d_Law_law_361 : decode code 361 = .ok (.invokevirtual 61, 3) := by decide +kernel
theorem d_Law_law_364 : decode code 364 = .ok (.aload_n 2, 1) := by decide +kernel
theorem d_Law_law_365 : decode code 365 = .ok (.aload_n 0, 1) := by decide +kernel
theorem d_Law_law_366 : decode code 366 = .ok (.iload 4, 2) := by decide +kernel
theorem d_Law_law_368 : decode code 368 = .ok (.iconst 1, 1) := by decide +kernel
theorem d_Law_law_369 : decode code 369 = .ok (.iadd, 1) := by decide +kernel
theorem d_Law_law_370 : decode code 370 = .ok (.iaload, 1) := by decide +kernel
theorem d_Law_law_371 : decode code 371 = .ok (.invokevirtual 65, 3) := by decide +kernel
theorem d_Law_law_374 : decode code 374 = .ok (.if_icmp .eq 609, 3) := by decide +kernel
theorem d_Law_law_377 : decode code 377 = .ok (.iconst 0, 1) := by decide +kernel
theorem d_Law_law_378 : decode code 378 = .ok (.ireturn, 1) := by decide +kernel
theorem d_Law_law_379 : decode code 379 = .ok (.aload_n 1, 1) := by decide +kernel
theorem d_Law_law_380 : decode code 380 = .ok (.aload_n 0, 1) := by decide +kernel
theorem d_Law_law_381 : decode code 381 = .ok (.iload 4, 2) := by decide +kernel
theorem d_Law_law_383 : decode code 383 = .ok (.iconst 1, 1) := by decide +kernel
theorem d_Law_law_384 : decode code 384 = .ok (.iadd, 1) := by decide +kernel
theorem d_Law_law_385 : decode code 385 = .ok (.iaload, 1) := by decide +kernel
theorem d_Law_law_386 : decode code 386 = .ok (.aload_n 0, 1) := by decide +kernel
theorem d_Law_law_387 : decode code 387 = .ok (.iload 4, 2) := by decide +kernel
theorem d_Law_law_389 : decode code 389 = .ok (.iconst 2, 1) := by decide +kernel
theorem d_Law_law_390 : decode code 390 = .ok (.iadd, 1) := by decide +kernel
theorem d_Law_law_391 : decode code 391 = .ok (.iaload, 1) := by decide +kernel
theorem d_Law_law_392 : decode code 392 = .ok (.invokevirtual 66, 3) := by decide +kernel
theorem d_Law_law_395 : decode code 395 = .ok (.aload_n 2, 1) := by decide +kernel
theorem d_Law_law_396 : decode code 396 = .ok (.aload_n 0, 1) := by decide +kernel
theorem d_Law_law_397 : decode code 397 = .ok (.iload 4, 2) := by decide +kernel
theorem d_Law_law_399 : decode code 399 = .ok (.iconst 1, 1) := by decide +kernel
theorem d_Law_law_400 : decode code 400 = .ok (.iadd, 1) := by decide +kernel
theorem d_Law_law_401 : decode code 401 = .ok (.iaload, 1) := by decide +kernel
theorem d_Law_law_402 : decode code 402 = .ok (.aload_n 0, 1) := by decide +kernel
theorem d_Law_law_403 : decode code 403 = .ok (.iload 4, 2) := by decide +kernel
theorem d_Law_law_405 : decode code 405 = .ok (.iconst 2, 1) := by decide +kernel
theorem d_Law_law_406 : decode code 406 = .ok (.iadd, 1) := by decide +kernel
theorem d_Law_law_407 : decode code 407 = .ok (.iaload, 1) := by decide +kernel
theorem d_Law_law_408 : decode code 408 = .ok (.invokevirtual 70, 3) := by decide +kernel
theorem d_Law_law_411 : decode code 411 = .ok (.lcmp, 1) := by decide +kernel
theorem d_Law_law_412 : decode code 412 = .ok (.ifCond .eq 571, 3) := by decide +kernel
theorem d_Law_law_415 : decode code 415 = .ok (.iconst 0, 1) := by decide +kernel
theorem d_Law_law_416 : decode code 416 = .ok (.ireturn, 1) := by decide +kernel
theorem d_Law_law_417 : decode code 417 = .ok (.aload_n 1, 1) := by decide +kernel
theorem d_Law_law_418 : decode code 418 = .ok (.aload_n 3, 1) := by decide +kernel
theorem d_Law_law_419 : decode code 419 = .ok (.invokestatic 71, 3) := by decide +kernel
theorem d_Law_law_422 : decode code 422 = .ok (.istore 5, 2) := by decide +kernel
theorem d_Law_law_424 : decode code 424 = .ok (.aload_n 2, 1) := by decide +kernel
theorem d_Law_law_425 : decode code 425 = .ok (.invokevirtual 74, 3) := by decide +kernel
theorem d_Law_law_428 : decode code 428 = .ok (.istore 6, 2) := by decide +kernel
theorem d_Law_law_430 : decode code 430 = .ok (.aload_n 2, 1) := by decide +kernel
theorem d_Law_law_431 : decode code 431 = .ok (.invokevirtual 38, 3) := by decide +kernel
theorem d_Law_law_434 : decode code 434 = .ok (.iload 5, 2) := by decide +kernel
theorem d_Law_law_436 : decode code 436 = .ok (.if_icmp .eq 5, 3) := by decide +kernel
theorem d_Law_law_439 : decode code 439 = .ok (.iconst 0, 1) := by decide +kernel
theorem d_Law_law_440 : decode code 440 = .ok (.ireturn, 1) := by decide +kernel
theorem d_Law_law_441 : decode code 441 = .ok (.iload 5, 2) := by decide +kernel
theorem d_Law_law_443 : decode code 443 = .ok (.ifCond .ne 15, 3) := by decide +kernel
theorem d_Law_law_446 : decode code 446 = .ok (.aload_n 3, 1) := by decide +kernel
theorem d_Law_law_447 : decode code 447 = .ok (.iconst 0, 1) := by decide +kernel
theorem d_Law_law_448 : decode code 448 = .ok (.laload, 1) := by decide +kernel
theorem d_Law_law_449 : decode code 449 = .ok (.iload 6, 2) := by decide +kernel
theorem d_Law_law_451 : decode code 451 = .ok (.i2l, 1) := by decide +kernel
theorem d_Law_law_452 : decode code 452 = .ok (.lcmp, 1) := by decide +kernel
theorem d_Law_law_453 : decode code 453 = .ok (.ifCond .eq 5, 3) := by decide +kernel
theorem d_Law_law_456 : decode code 456 = .ok (.iconst 0, 1) := by decide +kernel
theorem d_Law_law_457 : decode code 457 = .ok (.ireturn, 1) := by decide +kernel
theorem d_Law_law_458 : decode code 458 = .ok (.goto 525, 3) := by decide +kernel
theorem d_Law_law_461 : decode code 461 = .ok (.aload_n 1, 1) := by decide +kernel
theorem d_Law_law_462 : decode code 462 = .ok (.aload_n 0, 1) := by decide +kernel
theorem d_Law_law_463 : decode code 463 = .ok (.iload 4, 2) := by decide +kernel
theorem d_Law_law_465 : decode code 465 = .ok (.iconst 1, 1) := by decide +kernel
theorem d_Law_law_466 : decode code 466 = .ok (.iadd, 1) := by decide +kernel
theorem d_Law_law_467 : decode code 467 = .ok (.iaload, 1) := by decide +kernel
theorem d_Law_law_468 : decode code 468 = .ok (.aload_n 0, 1) := by decide +kernel
theorem d_Law_law_469 : decode code 469 = .ok (.iload 4, 2) := by decide +kernel
theorem d_Law_law_471 : decode code 471 = .ok (.iconst 2, 1) := by decide +kernel
theorem d_Law_law_472 : decode code 472 = .ok (.iadd, 1) := by decide +kernel
theorem d_Law_law_473 : decode code 473 = .ok (.iaload, 1) := by decide +kernel
theorem d_Law_law_474 : decode code 474 = .ok (.i2l, 1) := by decide +kernel
theorem d_Law_law_475 : decode code 475 = .ok (.bipush 32, 2) := by decide +kernel
theorem d_Law_law_477 : decode code 477 = .ok (.lshl, 1) := by decide +kernel
theorem d_Law_law_478 : decode code 478 = .ok (.aload_n 0, 1) := by decide +kernel
theorem d_Law_law_479 : decode code 479 = .ok (.iload 4, 2) := by decide +kernel
theorem d_Law_law_481 : decode code 481 = .ok (.iconst 3, 1) := by decide +kernel
theorem d_Law_law_482 : decode code 482 = .ok (.iadd, 1) := by decide +kernel
theorem d_Law_law_483 : decode code 483 = .ok (.iaload, 1) := by decide +kernel
theorem d_Law_law_484 : decode code 484 = .ok (.i2l, 1) := by decide +kernel
theorem d_Law_law_485 : decode code 485 = .ok (.ldc2_w 49, 3) := by decide +kernel
theorem d_Law_law_488 : decode code 488 = .ok (.land, 1) := by decide +kernel
theorem d_Law_law_489 : decode code 489 = .ok (.lor, 1) := by decide +kernel
theorem d_Law_law_490 : decode code 490 = .ok (.invokevirtual 75, 3) := by decide +kernel
theorem d_Law_law_493 : decode code 493 = .ok (.aload_n 2, 1) := by decide +kernel
theorem d_Law_law_494 : decode code 494 = .ok (.aload_n 0, 1) := by decide +kernel
theorem d_Law_law_495 : decode code 495 = .ok (.iload 4, 2) := by decide +kernel
theorem d_Law_law_497 : decode code 497 = .ok (.iconst 1, 1) := by decide +kernel
theorem d_Law_law_498 : decode code 498 = .ok (.iadd, 1) := by decide +kernel
theorem d_Law_law_499 : decode code 499 = .ok (.iaload, 1) := by decide +kernel
theorem d_Law_law_500 : decode code 500 = .ok (.aload_n 0, 1) := by decide +kernel
theorem d_Law_law_501 : decode code 501 = .ok (.iload 4, 2) := by decide +kernel
theorem d_Law_law_503 : decode code 503 = .ok (.iconst 2, 1) := by decide +kernel
theorem d_Law_law_504 : decode code 504 = .ok (.iadd, 1) := by decide +kernel
theorem d_Law_law_505 : decode code 505 = .ok (.iaload, 1) := by decide +kernel
theorem d_Law_law_506 : decode code 506 = .ok (.i2l, 1) := by decide +kernel
theorem d_Law_law_507 : decode code 507 = .ok (.bipush 32, 2) := by decide +kernel
theorem d_Law_law_509 : decode code 509 = .ok (.lshl, 1) := by decide +kernel
theorem d_Law_law_510 : decode code 510 = .ok (.aload_n 0, 1) := by decide +kernel
theorem d_Law_law_511 : decode code 511 = .ok (.iload 4, 2) := by decide +kernel
theorem d_Law_law_513 : decode code 513 = .ok (.iconst 3, 1) := by decide +kernel
theorem d_Law_law_514 : decode code 514 = .ok (.iadd, 1) := by decide +kernel
theorem d_Law_law_515 : decode code 515 = .ok (.iaload, 1) := by decide +kernel
theorem d_Law_law_516 : decode code 516 = .ok (.i2l, 1) := by decide +kernel
theorem d_Law_law_517 : decode code 517 = .ok (.ldc2_w 49, 3) := by decide +kernel
theorem d_Law_law_520 : decode code 520 = .ok (.land, 1) := by decide +kernel
theorem d_Law_law_521 : decode code 521 = .ok (.lor, 1) := by decide +kernel
theorem d_Law_law_522 : decode code 522 = .ok (.invokevirtual 79, 3) := by decide +kernel
theorem d_Law_law_525 : decode code 525 = .ok (.if_icmp .eq 458, 3) := by decide +kernel
theorem d_Law_law_528 : decode code 528 = .ok (.iconst 0, 1) := by decide +kernel
theorem d_Law_law_529 : decode code 529 = .ok (.ireturn, 1) := by decide +kernel
theorem d_Law_law_530 : decode code 530 = .ok (.aload_n 1, 1) := by decide +kernel
theorem d_Law_law_531 : decode code 531 = .ok (.invokevirtual 80, 3) := by decide +kernel
theorem d_Law_law_534 : decode code 534 = .ok (.aload_n 2, 1) := by decide +kernel
theorem d_Law_law_535 : decode code 535 = .ok (.invokevirtual 83, 3) := by decide +kernel
theorem d_Law_law_538 : decode code 538 = .ok (.goto 445, 3) := by decide +kernel
theorem d_Law_law_541 : decode code 541 = .ok (.aload_n 1, 1) := by decide +kernel
theorem d_Law_law_542 : decode code 542 = .ok (.aload_n 0, 1) := by decide +kernel
theorem d_Law_law_543 : decode code 543 = .ok (.iload 4, 2) := by decide +kernel
theorem d_Law_law_545 : decode code 545 = .ok (.iconst 1, 1) := by decide +kernel
theorem d_Law_law_546 : decode code 546 = .ok (.iadd, 1) := by decide +kernel
theorem d_Law_law_547 : decode code 547 = .ok (.iaload, 1) := by decide +kernel
theorem d_Law_law_548 : decode code 548 = .ok (.invokevirtual 84, 3) := by decide +kernel
theorem d_Law_law_551 : decode code 551 = .ok (.aload_n 2, 1) := by decide +kernel
theorem d_Law_law_552 : decode code 552 = .ok (.aload_n 0, 1) := by decide +kernel
theorem d_Law_law_553 : decode code 553 = .ok (.iload 4, 2) := by decide +kernel
theorem d_Law_law_555 : decode code 555 = .ok (.iconst 1, 1) := by decide +kernel
theorem d_Law_law_556 : decode code 556 = .ok (.iadd, 1) := by decide +kernel
theorem d_Law_law_557 : decode code 557 = .ok (.iaload, 1) := by decide +kernel
theorem d_Law_law_558 : decode code 558 = .ok (.invokevirtual 88, 3) := by decide +kernel
theorem d_Law_law_561 : decode code 561 = .ok (.if_icmp .eq 422, 3) := by decide +kernel
theorem d_Law_law_564 : decode code 564 = .ok (.iconst 0, 1) := by decide +kernel
theorem d_Law_law_565 : decode code 565 = .ok (.ireturn, 1) := by decide +kernel
theorem d_Law_law_566 : decode code 566 = .ok (.aload_n 1, 1) := by decide +kernel
theorem d_Law_law_567 : decode code 567 = .ok (.aload_n 3, 1) := by decide +kernel
theorem d_Law_law_568 : decode code 568 = .ok (.invokestatic 89, 3) := by decide +kernel
theorem d_Law_law_571 : decode code 571 = .ok (.istore 5, 2) := by decide +kernel
theorem d_Law_law_573 : decode code 573 = .ok (.aload_n 2, 1) := by decide +kernel
theorem d_Law_law_574 : decode code 574 = .ok (.invokevirtual 91, 3) := by decide +kernel
theorem d_Law_law_577 : decode code 577 = .ok (.istore 6, 2) := by decide +kernel
theorem d_Law_law_579 : decode code 579 = .ok (.aload_n 2, 1) := by decide +kernel
theorem d_Law_law_580 : decode code 580 = .ok (.invokevirtual 38, 3) := by decide +kernel
theorem d_Law_law_583 : decode code 583 = .ok (.iload 5, 2) := by decide +kernel
theorem d_Law_law_585 : decode code 585 = .ok (.if_icmp .eq 5, 3) := by decide +kernel
theorem d_Law_law_588 : decode code 588 = .ok (.iconst 0, 1) := by decide +kernel
theorem d_Law_law_589 : decode code 589 = .ok (.ireturn, 1) := by decide +kernel
theorem d_Law_law_590 : decode code 590 = .ok (.iload 5, 2) := by decide +kernel
theorem d_Law_law_592 : decode code 592 = .ok (.ifCond .ne 22, 3) := by decide +kernel
theorem d_Law_law_595 : decode code 595 = .ok (.aload_n 3, 1) := by decide +kernel
theorem d_Law_law_596 : decode code 596 = .ok (.iconst 0, 1) := by decide +kernel
theorem d_Law_law_597 : decode code 597 = .ok (.laload, 1) := by decide +kernel
theorem d_Law_law_598 : decode code 598 = .ok (.iload 6, 2) := by decide +kernel
theorem d_Law_law_600 : decode code 600 = .ok (.ifCond .eq 7, 3) := by decide +kernel
theorem d_Law_law_603 : decode code 603 = .ok (.lconst 1, 1) := by decide +kernel
theorem d_Law_law_604 : decode code 604 = .ok (.goto 4, 3) := by decide +kernel
theorem d_Law_law_607 : decode code 607 = .ok (.lconst 0, 1) := by decide +kernel
theorem d_Law_law_608 : decode code 608 = .ok (.lcmp, 1) := by decide +kernel
theorem d_Law_law_609 : decode code 609 = .ok (.ifCond .eq 5, 3) := by decide +kernel
theorem d_Law_law_612 : decode code 612 = .ok (.iconst 0, 1) := by decide +kernel
theorem d_Law_law_613 : decode code 613 = .ok (.ireturn, 1) := by decide +kernel
theorem d_Law_law_614 : decode code 614 = .ok (.goto 369, 3) := by decide +kernel
theorem d_Law_law_617 : decode code 617 = .ok (.aload_n 1, 1) := by decide +kernel
theorem d_Law_law_618 : decode code 618 = .ok (.aload_n 3, 1) := by decide +kernel
theorem d_Law_law_619 : decode code 619 = .ok (.invokestatic 92, 3) := by decide +kernel
theorem d_Law_law_622 : decode code 622 = .ok (.istore 5, 2) := by decide +kernel
theorem d_Law_law_624 : decode code 624 = .ok (.aload_n 2, 1) := by decide +kernel
theorem d_Law_law_625 : decode code 625 = .ok (.invokevirtual 94, 3) := by decide +kernel
theorem d_Law_law_628 : decode code 628 = .ok (.istore 6, 2) := by decide +kernel
theorem d_Law_law_630 : decode code 630 = .ok (.aload_n 2, 1) := by decide +kernel
theorem d_Law_law_631 : decode code 631 = .ok (.invokevirtual 38, 3) := by decide +kernel
theorem d_Law_law_634 : decode code 634 = .ok (.iload 5, 2) := by decide +kernel
theorem d_Law_law_636 : decode code 636 = .ok (.if_icmp .eq 5, 3) := by decide +kernel
theorem d_Law_law_639 : decode code 639 = .ok (.iconst 0, 1) := by decide +kernel
theorem d_Law_law_640 : decode code 640 = .ok (.ireturn, 1) := by decide +kernel
theorem d_Law_law_641 : decode code 641 = .ok (.iload 5, 2) := by decide +kernel
theorem d_Law_law_643 : decode code 643 = .ok (.ifCond .ne 15, 3) := by decide +kernel
theorem d_Law_law_646 : decode code 646 = .ok (.aload_n 3, 1) := by decide +kernel
theorem d_Law_law_647 : decode code 647 = .ok (.iconst 0, 1) := by decide +kernel
theorem d_Law_law_648 : decode code 648 = .ok (.laload, 1) := by decide +kernel
theorem d_Law_law_649 : decode code 649 = .ok (.iload 6, 2) := by decide +kernel
theorem d_Law_law_651 : decode code 651 = .ok (.i2l, 1) := by decide +kernel
theorem d_Law_law_652 : decode code 652 = .ok (.lcmp, 1) := by decide +kernel
theorem d_Law_law_653 : decode code 653 = .ok (.ifCond .eq 5, 3) := by decide +kernel
theorem d_Law_law_656 : decode code 656 = .ok (.iconst 0, 1) := by decide +kernel
theorem d_Law_law_657 : decode code 657 = .ok (.ireturn, 1) := by decide +kernel
theorem d_Law_law_658 : decode code 658 = .ok (.goto 325, 3) := by decide +kernel
theorem d_Law_law_661 : decode code 661 = .ok (.aload_n 1, 1) := by decide +kernel
theorem d_Law_law_662 : decode code 662 = .ok (.aload_n 0, 1) := by decide +kernel
theorem d_Law_law_663 : decode code 663 = .ok (.iload 4, 2) := by decide +kernel
theorem d_Law_law_665 : decode code 665 = .ok (.iconst 1, 1) := by decide +kernel
theorem d_Law_law_666 : decode code 666 = .ok (.iadd, 1) := by decide +kernel
theorem d_Law_law_667 : decode code 667 = .ok (.iaload, 1) := by decide +kernel
theorem d_Law_law_668 : decode code 668 = .ok (.invokevirtual 95, 3) := by decide +kernel
theorem d_Law_law_671 : decode code 671 = .ok (.aload_n 2, 1) := by decide +kernel
theorem d_Law_law_672 : decode code 672 = .ok (.aload_n 0, 1) := by decide +kernel
theorem d_Law_law_673 : decode code 673 = .ok (.iload 4, 2) := by decide +kernel
theorem d_Law_law_675 : decode code 675 = .ok (.iconst 1, 1) := by decide +kernel
theorem d_Law_law_676 : decode code 676 = .ok (.iadd, 1) := by decide +kernel
theorem d_Law_law_677 : decode code 677 = .ok (.iaload, 1) := by decide +kernel
theorem d_Law_law_678 : decode code 678 = .ok (.invokevirtual 98, 3) := by decide +kernel
theorem d_Law_law_681 : decode code 681 = .ok (.if_icmp .eq 302, 3) := by decide +kernel
theorem d_Law_law_684 : decode code 684 = .ok (.iconst 0, 1) := by decide +kernel
theorem d_Law_law_685 : decode code 685 = .ok (.ireturn, 1) := by decide +kernel
theorem d_Law_law_686 : decode code 686 = .ok (.aload_n 1, 1) := by decide +kernel
theorem d_Law_law_687 : decode code 687 = .ok (.invokevirtual 99, 3) := by decide +kernel
theorem d_Law_law_690 : decode code 690 = .ok (.aload_n 2, 1) := by decide +kernel
theorem d_Law_law_691 : decode code 691 = .ok (.invokevirtual 102, 3) := by decide +kernel
theorem d_Law_law_694 : decode code 694 = .ok (.if_icmp .eq 289, 3) := by decide +kernel
theorem d_Law_law_697 : decode code 697 = .ok (.iconst 0, 1) := by decide +kernel
theorem d_Law_law_698 : decode code 698 = .ok (.ireturn, 1) := by decide +kernel
theorem d_Law_law_699 : decode code 699 = .ok (.aload_n 1, 1) := by decide +kernel
theorem d_Law_law_700 : decode code 700 = .ok (.aload_n 0, 1) := by decide +kernel
theorem d_Law_law_701 : decode code 701 = .ok (.iload 4, 2) := by decide +kernel
theorem d_Law_law_703 : decode code 703 = .ok (.iconst 1, 1) := by decide +kernel
theorem d_Law_law_704 : decode code 704 = .ok (.iadd, 1) := by decide +kernel
theorem d_Law_law_705 : decode code 705 = .ok (.iaload, 1) := by decide +kernel
theorem d_Law_law_706 : decode code 706 = .ok (.aload_n 0, 1) := by decide +kernel
theorem d_Law_law_707 : decode code 707 = .ok (.iload 4, 2) := by decide +kernel
theorem d_Law_law_709 : decode code 709 = .ok (.iconst 2, 1) := by decide +kernel
theorem d_Law_law_710 : decode code 710 = .ok (.iadd, 1) := by decide +kernel
theorem d_Law_law_711 : decode code 711 = .ok (.iaload, 1) := by decide +kernel
theorem d_Law_law_712 : decode code 712 = .ok (.invokevirtual 103, 3) := by decide +kernel
theorem d_Law_law_715 : decode code 715 = .ok (.aload_n 2, 1) := by decide +kernel
theorem d_Law_law_716 : decode code 716 = .ok (.aload_n 0, 1) := by decide +kernel
theorem d_Law_law_717 : decode code 717 = .ok (.iload 4, 2) := by decide +kernel
theorem d_Law_law_719 : decode code 719 = .ok (.iconst 1, 1) := by decide +kernel
theorem d_Law_law_720 : decode code 720 = .ok (.iadd, 1) := by decide +kernel
theorem d_Law_law_721 : decode code 721 = .ok (.iaload, 1) := by decide +kernel
theorem d_Law_law_722 : decode code 722 = .ok (.aload_n 0, 1) := by decide +kernel
theorem d_Law_law_723 : decode code 723 = .ok (.iload 4, 2) := by decide +kernel
theorem d_Law_law_725 : decode code 725 = .ok (.iconst 2, 1) := by decide +kernel
theorem d_Law_law_726 : decode code 726 = .ok (.iadd, 1) := by decide +kernel
theorem d_Law_law_727 : decode code 727 = .ok (.iaload, 1) := by decide +kernel
theorem d_Law_law_728 : decode code 728 = .ok (.invokevirtual 106, 3) := by decide +kernel
theorem d_Law_law_731 : decode code 731 = .ok (.if_icmp .eq 252, 3) := by decide +kernel
theorem d_Law_law_734 : decode code 734 = .ok (.iconst 0, 1) := by decide +kernel
theorem d_Law_law_735 : decode code 735 = .ok (.ireturn, 1) := by decide +kernel
theorem d_Law_law_736 : decode code 736 = .ok (.aload_n 1, 1) := by decide +kernel
theorem d_Law_law_737 : decode code 737 = .ok (.aload_n 0, 1) := by decide +kernel
theorem d_Law_law_738 : decode code 738 = .ok (.iload 4, 2) := by decide +kernel
theorem d_Law_law_740 : decode code 740 = .ok (.iconst 1, 1) := by decide +kernel
theorem d_Law_law_741 : decode code 741 = .ok (.iadd, 1) := by decide +kernel
theorem d_Law_law_742 : decode code 742 = .ok (.iaload, 1) := by decide +kernel
theorem d_Law_law_743 : decode code 743 = .ok (.aload_n 0, 1) := by decide +kernel
theorem d_Law_law_744 : decode code 744 = .ok (.iload 4, 2) := by decide +kernel
theorem d_Law_law_746 : decode code 746 = .ok (.iconst 2, 1) := by decide +kernel
theorem d_Law_law_747 : decode code 747 = .ok (.iadd, 1) := by decide +kernel
theorem d_Law_law_748 : decode code 748 = .ok (.iaload, 1) := by decide +kernel
theorem d_Law_law_749 : decode code 749 = .ok (.invokevirtual 107, 3) := by decide +kernel
theorem d_Law_law_752 : decode code 752 = .ok (.aload_n 2, 1) := by decide +kernel
theorem d_Law_law_753 : decode code 753 = .ok (.aload_n 0, 1) := by decide +kernel
theorem d_Law_law_754 : decode code 754 = .ok (.iload 4, 2) := by decide +kernel
theorem d_Law_law_756 : decode code 756 = .ok (.iconst 1, 1) := by decide +kernel
theorem d_Law_law_757 : decode code 757 = .ok (.iadd, 1) := by decide +kernel
theorem d_Law_law_758 : decode code 758 = .ok (.iaload, 1) := by decide +kernel
theorem d_Law_law_759 : decode code 759 = .ok (.aload_n 0, 1) := by decide +kernel
theorem d_Law_law_760 : decode code 760 = .ok (.iload 4, 2) := by decide +kernel
theorem d_Law_law_762 : decode code 762 = .ok (.iconst 2, 1) := by decide +kernel
theorem d_Law_law_763 : decode code 763 = .ok (.iadd, 1) := by decide +kernel
theorem d_Law_law_764 : decode code 764 = .ok (.iaload, 1) := by decide +kernel
theorem d_Law_law_765 : decode code 765 = .ok (.invokevirtual 110, 3) := by decide +kernel
theorem d_Law_law_768 : decode code 768 = .ok (.if_icmp .eq 215, 3) := by decide +kernel
theorem d_Law_law_771 : decode code 771 = .ok (.iconst 0, 1) := by decide +kernel
theorem d_Law_law_772 : decode code 772 = .ok (.ireturn, 1) := by decide +kernel
theorem d_Law_law_773 : decode code 773 = .ok (.aload_n 1, 1) := by decide +kernel
theorem d_Law_law_774 : decode code 774 = .ok (.aload_n 0, 1) := by decide +kernel
theorem d_Law_law_775 : decode code 775 = .ok (.iload 4, 2) := by decide +kernel
theorem d_Law_law_777 : decode code 777 = .ok (.iconst 1, 1) := by decide +kernel
theorem d_Law_law_778 : decode code 778 = .ok (.iadd, 1) := by decide +kernel
theorem d_Law_law_779 : decode code 779 = .ok (.iaload, 1) := by decide +kernel
theorem d_Law_law_780 : decode code 780 = .ok (.invokevirtual 111, 3) := by decide +kernel
theorem d_Law_law_783 : decode code 783 = .ok (.aload_n 2, 1) := by decide +kernel
theorem d_Law_law_784 : decode code 784 = .ok (.aload_n 0, 1) := by decide +kernel
theorem d_Law_law_785 : decode code 785 = .ok (.iload 4, 2) := by decide +kernel
theorem d_Law_law_787 : decode code 787 = .ok (.iconst 1, 1) := by decide +kernel
theorem d_Law_law_788 : decode code 788 = .ok (.iadd, 1) := by decide +kernel
theorem d_Law_law_789 : decode code 789 = .ok (.iaload, 1) := by decide +kernel
theorem d_Law_law_790 : decode code 790 = .ok (.invokevirtual 114, 3) := by decide +kernel
theorem d_Law_law_793 : decode code 793 = .ok (.if_icmp .eq 190, 3) := by decide +kernel
theorem d_Law_law_796 : decode code 796 = .ok (.iconst 0, 1) := by decide +kernel
theorem d_Law_law_797 : decode code 797 = .ok (.ireturn, 1) := by decide +kernel
theorem d_Law_law_798 : decode code 798 = .ok (.aload_n 1, 1) := by decide +kernel
theorem d_Law_law_799 : decode code 799 = .ok (.aload_n 0, 1) := by decide +kernel
theorem d_Law_law_800 : decode code 800 = .ok (.iload 4, 2) := by decide +kernel
theorem d_Law_law_802 : decode code 802 = .ok (.iconst 1, 1) := by decide +kernel
theorem d_Law_law_803 : decode code 803 = .ok (.iadd, 1) := by decide +kernel
theorem d_Law_law_804 : decode code 804 = .ok (.iaload, 1) := by decide +kernel
theorem d_Law_law_805 : decode code 805 = .ok (.invokevirtual 115, 3) := by decide +kernel
theorem d_Law_law_808 : decode code 808 = .ok (.aload_n 2, 1) := by decide +kernel
theorem d_Law_law_809 : decode code 809 = .ok (.aload_n 0, 1) := by decide +kernel
theorem d_Law_law_810 : decode code 810 = .ok (.iload 4, 2) := by decide +kernel
theorem d_Law_law_812 : decode code 812 = .ok (.iconst 1, 1) := by decide +kernel
theorem d_Law_law_813 : decode code 813 = .ok (.iadd, 1) := by decide +kernel
theorem d_Law_law_814 : decode code 814 = .ok (.iaload, 1) := by decide +kernel
theorem d_Law_law_815 : decode code 815 = .ok (.invokevirtual 118, 3) := by decide +kernel
theorem d_Law_law_818 : decode code 818 = .ok (.if_icmp .eq 165, 3) := by decide +kernel
theorem d_Law_law_821 : decode code 821 = .ok (.iconst 0, 1) := by decide +kernel
theorem d_Law_law_822 : decode code 822 = .ok (.ireturn, 1) := by decide +kernel
theorem d_Law_law_823 : decode code 823 = .ok (.aload_n 1, 1) := by decide +kernel
theorem d_Law_law_824 : decode code 824 = .ok (.aload_n 0, 1) := by decide +kernel
theorem d_Law_law_825 : decode code 825 = .ok (.iload 4, 2) := by decide +kernel
theorem d_Law_law_827 : decode code 827 = .ok (.iconst 1, 1) := by decide +kernel
theorem d_Law_law_828 : decode code 828 = .ok (.iadd, 1) := by decide +kernel
theorem d_Law_law_829 : decode code 829 = .ok (.iaload, 1) := by decide +kernel
theorem d_Law_law_830 : decode code 830 = .ok (.aload_n 0, 1) := by decide +kernel
theorem d_Law_law_831 : decode code 831 = .ok (.iload 4, 2) := by decide +kernel
theorem d_Law_law_833 : decode code 833 = .ok (.iconst 2, 1) := by decide +kernel
theorem d_Law_law_834 : decode code 834 = .ok (.iadd, 1) := by decide +kernel
theorem d_Law_law_835 : decode code 835 = .ok (.iaload, 1) := by decide +kernel
theorem d_Law_law_836 : decode code 836 = .ok (.invokevirtual 119, 3) := by decide +kernel
theorem d_Law_law_839 : decode code 839 = .ok (.aload_n 2, 1) := by decide +kernel
theorem d_Law_law_840 : decode code 840 = .ok (.aload_n 0, 1) := by decide +kernel
theorem d_Law_law_841 : decode code 841 = .ok (.iload 4, 2) := by decide +kernel
theorem d_Law_law_843 : decode code 843 = .ok (.iconst 1, 1) := by decide +kernel
theorem d_Law_law_844 : decode code 844 = .ok (.iadd, 1) := by decide +kernel
theorem d_Law_law_845 : decode code 845 = .ok (.iaload, 1) := by decide +kernel
theorem d_Law_law_846 : decode code 846 = .ok (.aload_n 0, 1) := by decide +kernel
theorem d_Law_law_847 : decode code 847 = .ok (.iload 4, 2) := by decide +kernel
theorem d_Law_law_849 : decode code 849 = .ok (.iconst 2, 1) := by decide +kernel
theorem d_Law_law_850 : decode code 850 = .ok (.iadd, 1) := by decide +kernel
theorem d_Law_law_851 : decode code 851 = .ok (.iaload, 1) := by decide +kernel
theorem d_Law_law_852 : decode code 852 = .ok (.invokevirtual 122, 3) := by decide +kernel
theorem d_Law_law_855 : decode code 855 = .ok (.if_icmp .eq 128, 3) := by decide +kernel
theorem d_Law_law_858 : decode code 858 = .ok (.iconst 0, 1) := by decide +kernel
theorem d_Law_law_859 : decode code 859 = .ok (.ireturn, 1) := by decide +kernel
theorem d_Law_law_860 : decode code 860 = .ok (.aload_n 1, 1) := by decide +kernel
theorem d_Law_law_861 : decode code 861 = .ok (.aload_n 0, 1) := by decide +kernel
theorem d_Law_law_862 : decode code 862 = .ok (.iload 4, 2) := by decide +kernel
theorem d_Law_law_864 : decode code 864 = .ok (.iconst 1, 1) := by decide +kernel
theorem d_Law_law_865 : decode code 865 = .ok (.iadd, 1) := by decide +kernel
theorem d_Law_law_866 : decode code 866 = .ok (.iaload, 1) := by decide +kernel
theorem d_Law_law_867 : decode code 867 = .ok (.aload_n 0, 1) := by decide +kernel
theorem d_Law_law_868 : decode code 868 = .ok (.iload 4, 2) := by decide +kernel
theorem d_Law_law_870 : decode code 870 = .ok (.iconst 2, 1) := by decide +kernel
theorem d_Law_law_871 : decode code 871 = .ok (.iadd, 1) := by decide +kernel
theorem d_Law_law_872 : decode code 872 = .ok (.iaload, 1) := by decide +kernel
theorem d_Law_law_873 : decode code 873 = .ok (.aload_n 0, 1) := by decide +kernel
theorem d_Law_law_874 : decode code 874 = .ok (.iload 4, 2) := by decide +kernel
theorem d_Law_law_876 : decode code 876 = .ok (.iconst 3, 1) := by decide +kernel
theorem d_Law_law_877 : decode code 877 = .ok (.iadd, 1) := by decide +kernel
theorem d_Law_law_878 : decode code 878 = .ok (.iaload, 1) := by decide +kernel
theorem d_Law_law_879 : decode code 879 = .ok (.aload_n 0, 1) := by decide +kernel
theorem d_Law_law_880 : decode code 880 = .ok (.iload 4, 2) := by decide +kernel
theorem d_Law_law_882 : decode code 882 = .ok (.iconst 4, 1) := by decide +kernel
theorem d_Law_law_883 : decode code 883 = .ok (.iadd, 1) := by decide +kernel
theorem d_Law_law_884 : decode code 884 = .ok (.iaload, 1) := by decide +kernel
theorem d_Law_law_885 : decode code 885 = .ok (.invokevirtual 123, 3) := by decide +kernel
theorem d_Law_law_888 : decode code 888 = .ok (.aload_n 2, 1) := by decide +kernel
theorem d_Law_law_889 : decode code 889 = .ok (.aload_n 0, 1) := by decide +kernel
theorem d_Law_law_890 : decode code 890 = .ok (.iload 4, 2) := by decide +kernel
theorem d_Law_law_892 : decode code 892 = .ok (.iconst 1, 1) := by decide +kernel
theorem d_Law_law_893 : decode code 893 = .ok (.iadd, 1) := by decide +kernel
theorem d_Law_law_894 : decode code 894 = .ok (.iaload, 1) := by decide +kernel
theorem d_Law_law_895 : decode code 895 = .ok (.aload_n 0, 1) := by decide +kernel
theorem d_Law_law_896 : decode code 896 = .ok (.iload 4, 2) := by decide +kernel
theorem d_Law_law_898 : decode code 898 = .ok (.iconst 2, 1) := by decide +kernel
theorem d_Law_law_899 : decode code 899 = .ok (.iadd, 1) := by decide +kernel
theorem d_Law_law_900 : decode code 900 = .ok (.iaload, 1) := by decide +kernel
theorem d_Law_law_901 : decode code 901 = .ok (.aload_n 0, 1) := by decide +kernel
theorem d_Law_law_902 : decode code 902 = .ok (.iload 4, 2) := by decide +kernel
theorem d_Law_law_904 : decode code 904 = .ok (.iconst 3, 1) := by decide +kernel
theorem d_Law_law_905 : decode code 905 = .ok (.iadd, 1) := by decide +kernel
theorem d_Law_law_906 : decode code 906 = .ok (.iaload, 1) := by decide +kernel
theorem d_Law_law_907 : decode code 907 = .ok (.aload_n 0, 1) := by decide +kernel
theorem d_Law_law_908 : decode code 908 = .ok (.iload 4, 2) := by decide +kernel
theorem d_Law_law_910 : decode code 910 = .ok (.iconst 4, 1) := by decide +kernel
theorem d_Law_law_911 : decode code 911 = .ok (.iadd, 1) := by decide +kernel
theorem d_Law_law_912 : decode code 912 = .ok (.iaload, 1) := by decide +kernel
theorem d_Law_law_913 : decode code 913 = .ok (.invokevirtual 127, 3) := by decide +kernel
theorem d_Law_law_916 : decode code 916 = .ok (.if_icmp .eq 67, 3) := by decide +kernel
theorem d_Law_law_919 : decode code 919 = .ok (.iconst 0, 1) := by decide +kernel
theorem d_Law_law_920 : decode code 920 = .ok (.ireturn, 1) := by decide +kernel
theorem d_Law_law_921 : decode code 921 = .ok (.aload_n 1, 1) := by decide +kernel
theorem d_Law_law_922 : decode code 922 = .ok (.aload_n 0, 1) := by decide +kernel
theorem d_Law_law_923 : decode code 923 = .ok (.iload 4, 2) := by decide +kernel
theorem d_Law_law_925 : decode code 925 = .ok (.iconst 1, 1) := by decide +kernel
theorem d_Law_law_926 : decode code 926 = .ok (.iadd, 1) := by decide +kernel
theorem d_Law_law_927 : decode code 927 = .ok (.iaload, 1) := by decide +kernel
theorem d_Law_law_928 : decode code 928 = .ok (.aload_n 0, 1) := by decide +kernel
theorem d_Law_law_929 : decode code 929 = .ok (.iload 4, 2) := by decide +kernel
theorem d_Law_law_931 : decode code 931 = .ok (.iconst 2, 1) := by decide +kernel
theorem d_Law_law_932 : decode code 932 = .ok (.iadd, 1) := by decide +kernel
theorem d_Law_law_933 : decode code 933 = .ok (.iaload, 1) := by decide +kernel
theorem d_Law_law_934 : decode code 934 = .ok (.invokevirtual 128, 3) := by decide +kernel
theorem d_Law_law_937 : decode code 937 = .ok (.aload_n 2, 1) := by decide +kernel
theorem d_Law_law_938 : decode code 938 = .ok (.aload_n 0, 1) := by decide +kernel
theorem d_Law_law_939 : decode code 939 = .ok (.iload 4, 2) := by decide +kernel
theorem d_Law_law_941 : decode code 941 = .ok (.iconst 1, 1) := by decide +kernel
theorem d_Law_law_942 : decode code 942 = .ok (.iadd, 1) := by decide +kernel
theorem d_Law_law_943 : decode code 943 = .ok (.iaload, 1) := by decide +kernel
theorem d_Law_law_944 : decode code 944 = .ok (.aload_n 0, 1) := by decide +kernel
theorem d_Law_law_945 : decode code 945 = .ok (.iload 4, 2) := by decide +kernel
theorem d_Law_law_947 : decode code 947 = .ok (.iconst 2, 1) := by decide +kernel
theorem d_Law_law_948 : decode code 948 = .ok (.iadd, 1) := by decide +kernel
theorem d_Law_law_949 : decode code 949 = .ok (.iaload, 1) := by decide +kernel
theorem d_Law_law_950 : decode code 950 = .ok (.invokevirtual 131, 3) := by decide +kernel
theorem d_Law_law_953 : decode code 953 = .ok (.if_icmp .eq 30, 3) := by decide +kernel
theorem d_Law_law_956 : decode code 956 = .ok (.iconst 0, 1) := by decide +kernel
theorem d_Law_law_957 : decode code 957 = .ok (.ireturn, 1) := by decide +kernel
theorem d_Law_law_958 : decode code 958 = .ok (.aload_n 1, 1) := by decide +kernel
theorem d_Law_law_959 : decode code 959 = .ok (.aload_n 0, 1) := by decide +kernel
theorem d_Law_law_960 : decode code 960 = .ok (.iload 4, 2) := by decide +kernel
theorem d_Law_law_962 : decode code 962 = .ok (.iconst 1, 1) := by decide +kernel
theorem d_Law_law_963 : decode code 963 = .ok (.iadd, 1) := by decide +kernel
theorem d_Law_law_964 : decode code 964 = .ok (.iaload, 1) := by decide +kernel
theorem d_Law_law_965 : decode code 965 = .ok (.invokevirtual 132, 3) := by decide +kernel
theorem d_Law_law_968 : decode code 968 = .ok (.aload_n 2, 1) := by decide +kernel
theorem d_Law_law_969 : decode code 969 = .ok (.aload_n 0, 1) := by decide +kernel
theorem d_Law_law_970 : decode code 970 = .ok (.iload 4, 2) := by decide +kernel
theorem d_Law_law_972 : decode code 972 = .ok (.iconst 1, 1) := by decide +kernel
theorem d_Law_law_973 : decode code 973 = .ok (.iadd, 1) := by decide +kernel
theorem d_Law_law_974 : decode code 974 = .ok (.iaload, 1) := by decide +kernel
theorem d_Law_law_975 : decode code 975 = .ok (.invokevirtual 135, 3) := by decide +kernel
theorem d_Law_law_978 : decode code 978 = .ok (.if_icmp .eq 5, 3) := by decide +kernel
theorem d_Law_law_981 : decode code 981 = .ok (.iconst 0, 1) := by decide +kernel
theorem d_Law_law_982 : decode code 982 = .ok (.ireturn, 1) := by decide +kernel
theorem d_Law_law_983 : decode code 983 = .ok (.iinc 4 5, 3) := by decide +kernel
theorem d_Law_law_986 : decode code 986 = .ok (.goto (-963), 3) := by decide +kernel
theorem d_Law_law_989 : decode code 989 = .ok (.iconst 1, 1) := by decide +kernel
theorem d_Law_law_990 : decode code 990 = .ok (.ireturn, 1) := by decide +kernel
theorem lc_Law_8 : Cond.classLink "KeyCodecLaw" (8 : Nat) "KeyCodec" ∈ kTs := km 17 (by decide +kernel) (by decide +kernel)
theorem kb_Kc_init : kCB M_Kc_init 0 := ⟨km 1 (by decide +kernel) (by decide +kernel), km 21 (by decide +kernel) (by decide +kernel), by decide +kernel, by decide +kernel⟩
theorem lg_Law_28 : kCI "KeyCodecLaw" 28 M_Kc_init 0 := ⟨kb_Kc_init, km 19 (by decide +kernel) (by decide +kernel), km 20 (by decide +kernel) (by decide +kernel), rfl, rfl⟩
theorem lc_Law_29 : Cond.classLink "KeyCodecLaw" (29 : Nat) "KeyCodecModel" ∈ kTs := km 582 (by decide +kernel) (by decide +kernel)
theorem kb_Mod_init : kCB M_Mod_init 0 := ⟨km 6 (by decide +kernel) (by decide +kernel), km 586 (by decide +kernel) (by decide +kernel), by decide +kernel, by decide +kernel⟩
theorem lg_Law_31 : kCI "KeyCodecLaw" 31 M_Mod_init 0 := ⟨kb_Mod_init, km 584 (by decide +kernel) (by decide +kernel), km 585 (by decide +kernel) (by decide +kernel), rfl, rfl⟩
theorem lh_Law_32 : Cond.methodLink "KeyCodecLaw" (32 : Nat) ({ cls := "KeyCodecLaw", name := "field", desc := "(LKeyCodec;II[J)I" } : MethodName) ∈ kTs := km 379 (by decide +kernel) (by decide +kernel)
theorem ls_Law_field : Cond.static ({ cls := "KeyCodecLaw", name := "field", desc := "(LKeyCodec;II[J)I" } : MethodName) ∈ kTs := km 380 (by decide +kernel) (by decide +kernel)
theorem cw_Law_field : Cond.codeWith M_Law_field.1 M_Law_field.2.1 M_Law_field.2.2.1 M_Law_field.2.2.2 [(0, 10, 13, 13), (0, 10, 17, 15)] ∈ kTs := km 381 (by decide +kernel) (by decide +kernel)
theorem ii_Law : Cond.initialized "KeyCodecLaw" ∈ kTs := km 0 (by decide +kernel) (by decide +kernel)
theorem kb_Mod_field : kCB M_Mod_field 2 := ⟨km 6 (by decide +kernel) (by decide +kernel), km 667 (by decide +kernel) (by decide +kernel), by decide +kernel, by decide +kernel⟩
theorem lg_Law_37 : kCV "KeyCodecLaw" 37 M_Mod_field 2 6 := ⟨kb_Mod_field, km 664 (by decide +kernel) (by decide +kernel), km 665 (by decide +kernel) (by decide +kernel), km 666 (by decide +kernel) (by decide +kernel), (F_Mod, 23), rfl⟩
theorem kb_Mod_thrown : kCB M_Mod_thrown 0 := ⟨km 6 (by decide +kernel) (by decide +kernel), km 663 (by decide +kernel) (by decide +kernel), by decide +kernel, by decide +kernel⟩
theorem lg_Law_38 : kCV "KeyCodecLaw" 38 M_Mod_thrown 0 6 := ⟨kb_Mod_thrown, km 660 (by decide +kernel) (by decide +kernel), km 661 (by decide +kernel) (by decide +kernel), km 662 (by decide +kernel) (by decide +kernel), (F_Mod, 23), rfl⟩
theorem kb_Kc_seal : kCB M_Kc_seal 0 := ⟨km 1 (by decide +kernel) (by decide +kernel), km 156 (by decide +kernel) (by decide +kernel), by decide +kernel, by decide +kernel⟩
theorem lg_Law_41 : kCV "KeyCodecLaw" 41 M_Kc_seal 0 0 := ⟨kb_Kc_seal, km 153 (by decide +kernel) (by decide +kernel), km 154 (by decide +kernel) (by decide +kernel), km 155 (by decide +kernel) (by decide +kernel), (F_Kc, 12), rfl⟩
theorem kb_Mod_seal : kCB M_Mod_seal 0 := ⟨km 6 (by decide +kernel) (by decide +kernel), km 671 (by decide +kernel) (by decide +kernel), by decide +kernel, by decide +kernel⟩
theorem lg_Law_44 : kCV "KeyCodecLaw" 44 M_Mod_seal 0 6 := ⟨kb_Mod_seal, km 668 (by decide +kernel) (by decide +kernel), km 669 (by decide +kernel) (by decide +kernel), km 670 (by decide +kernel) (by decide +kernel), (F_Mod, 23), rfl⟩
theorem kb_Kc_clear : kCB M_Kc_clear 0 := ⟨km 1 (by decide +kernel) (by decide +kernel), km 168 (by decide +kernel) (by decide +kernel), by decide +kernel, by decide +kernel⟩
theorem lg_Law_45 : kCV "KeyCodecLaw" 45 M_Kc_clear 0 0 := ⟨kb_Kc_clear, km 165 (by decide +kernel) (by decide +kernel), km 166 (by decide +kernel) (by decide +kernel), km 167 (by decide +kernel) (by decide +kernel), (F_Kc, 12), rfl⟩
theorem kb_Mod_clear : kCB M_Mod_clear 0 := ⟨km 6 (by decide +kernel) (by decide +kernel), km 679 (by decide +kernel) (by decide +kernel), by decide +kernel, by decide +kernel⟩
theorem lg_Law_48 : kCV "KeyCodecLaw" 48 M_Mod_clear 0 6 := ⟨kb_Mod_clear, km 676 (by decide +kernel) (by decide +kernel), km 677 (by decide +kernel) (by decide +kernel), km 678 (by decide +kernel) (by decide +kernel), (F_Mod, 23), rfl⟩
theorem lK_Law_49 : Cond.constantLong "KeyCodecLaw" (49 : Nat) (4294967295 : Int64) ∈ kTs := km 898 (by decide +kernel) (by decide +kernel)
theorem kb_Kc_put : kCB M_Kc_put 3 := ⟨km 1 (by decide +kernel) (by decide +kernel), km 180 (by decide +kernel) (by decide +kernel), by decide +kernel, by decide +kernel⟩
theorem lg_Law_51 : kCV "KeyCodecLaw" 51 M_Kc_put 3 0 := ⟨kb_Kc_put, km 177 (by decide +kernel) (by decide +kernel), km 178 (by decide +kernel) (by decide +kernel), km 179 (by decide +kernel) (by decide +kernel), (F_Kc, 12), rfl⟩
theorem kb_Mod_put : kCB M_Mod_put 3 := ⟨km 6 (by decide +kernel) (by decide +kernel), km 683 (by decide +kernel) (by decide +kernel), by decide +kernel, by decide +kernel⟩
theorem lg_Law_55 : kCV "KeyCodecLaw" 55 M_Mod_put 3 6 := ⟨kb_Mod_put, km 680 (by decide +kernel) (by decide +kernel), km 681 (by decide +kernel) (by decide +kernel), km 682 (by decide +kernel) (by decide +kernel), (F_Mod, 23), rfl⟩
theorem kb_Kc_text : kCB M_Kc_text 2 := ⟨km 1 (by decide +kernel) (by decide +kernel), km 197 (by decide +kernel) (by decide +kernel), by decide +kernel, by decide +kernel⟩
theorem lg_Law_56 : kCV "KeyCodecLaw" 56 M_Kc_text 2 0 := ⟨kb_Kc_text, km 194 (by decide +kernel) (by decide +kernel), km 195 (by decide +kernel) (by decide +kernel), km 196 (by decide +kernel) (by decide +kernel), (F_Kc, 12), rfl⟩
theorem kb_Mod_text : kCB M_Mod_text 2 := ⟨km 6 (by decide +kernel) (by decide +kernel), km 702 (by decide +kernel) (by decide +kernel), by decide +kernel, by decide +kernel⟩
theorem lg_Law_60 : kCV "KeyCodecLaw" 60 M_Mod_text 2 6 := ⟨kb_Mod_text, km 699 (by decide +kernel) (by decide +kernel), km 700 (by decide +kernel) (by decide +kernel), km 701 (by decide +kernel) (by decide +kernel), (F_Mod, 23), rfl⟩
theorem kb_Kc_absent : kCB M_Kc_absent 1 := ⟨km 1 (by decide +kernel) (by decide +kernel), km 205 (by decide +kernel) (by decide +kernel), by decide +kernel, by decide +kernel⟩
theorem lg_Law_61 : kCV "KeyCodecLaw" 61 M_Kc_absent 1 0 := ⟨kb_Kc_absent, km 202 (by decide +kernel) (by decide +kernel), km 203 (by decide +kernel) (by decide +kernel), km 204 (by decide +kernel) (by decide +kernel), (F_Kc, 12), rfl⟩
theorem kb_Mod_absent : kCB M_Mod_absent 1 := ⟨km 6 (by decide +kernel) (by decide +kernel), km 706 (by decide +kernel) (by decide +kernel), by decide +kernel, by decide +kernel⟩
theorem lg_Law_65 : kCV "KeyCodecLaw" 65 M_Mod_absent 1 6 := ⟨kb_Mod_absent, km 703 (by decide +kernel) (by decide +kernel), km 704 (by decide +kernel) (by decide +kernel), km 705 (by decide +kernel) (by decide +kernel), (F_Mod, 23), rfl⟩
theorem kb_Kc_get : kCB M_Kc_get 2 := ⟨km 1 (by decide +kernel) (by decide +kernel), km 218 (by decide +kernel) (by decide +kernel), by decide +kernel, by decide +kernel⟩
theorem lg_Law_66 : kCV "KeyCodecLaw" 66 M_Kc_get 2 0 := ⟨kb_Kc_get, km 215 (by decide +kernel) (by decide +kernel), km 216 (by decide +kernel) (by decide +kernel), km 217 (by decide +kernel) (by decide +kernel), (F_Kc, 12), rfl⟩
theorem kb_Mod_get : kCB M_Mod_get 2 := ⟨km 6 (by decide +kernel) (by decide +kernel), km 714 (by decide +kernel) (by decide +kernel), by decide +kernel, by decide +kernel⟩
theorem lg_Law_70 : kCV "KeyCodecLaw" 70 M_Mod_get 2 6 := ⟨kb_Mod_get, km 711 (by decide +kernel) (by decide +kernel), km 712 (by decide +kernel) (by decide +kernel), km 713 (by decide +kernel) (by decide +kernel), (F_Mod, 23), rfl⟩
theorem lh_Law_71 : Cond.methodLink "KeyCodecLaw" (71 : Nat) ({ cls := "KeyCodecLaw", name := "encode", desc := "(LKeyCodec;[J)I" } : MethodName) ∈ kTs := km 475 (by decide +kernel) (by decide +kernel)
theorem ls_Law_encode : Cond.static ({ cls := "KeyCodecLaw", name := "encode", desc := "(LKeyCodec;[J)I" } : MethodName) ∈ kTs := km 476 (by decide +kernel) (by decide +kernel)
theorem cw_Law_encode : Cond.codeWith M_Law_encode.1 M_Law_encode.2.1 M_Law_encode.2.2.1 M_Law_encode.2.2.2 [(0, 8, 11, 15)] ∈ kTs := km 477 (by decide +kernel) (by decide +kernel)
theorem kb_Mod_encode : kCB M_Mod_encode 0 := ⟨km 6 (by decide +kernel) (by decide +kernel), km 719 (by decide +kernel) (by decide +kernel), by decide +kernel, by decide +kernel⟩
theorem lg_Law_74 : kCV "KeyCodecLaw" 74 M_Mod_encode 0 6 := ⟨kb_Mod_encode, km 716 (by decide +kernel) (by decide +kernel), km 717 (by decide +kernel) (by decide +kernel), km 718 (by decide +kernel) (by decide +kernel), (F_Mod, 23), rfl⟩
theorem kb_Kc_load : kCB M_Kc_load 2 := ⟨km 1 (by decide +kernel) (by decide +kernel), km 227 (by decide +kernel) (by decide +kernel), by decide +kernel, by decide +kernel⟩
theorem lg_Law_75 : kCV "KeyCodecLaw" 75 M_Kc_load 2 0 := ⟨kb_Kc_load, km 224 (by decide +kernel) (by decide +kernel), km 225 (by decide +kernel) (by decide +kernel), km 226 (by decide +kernel) (by decide +kernel), (F_Kc, 12), rfl⟩
theorem kb_Mod_load : kCB M_Mod_load 2 := ⟨km 6 (by decide +kernel) (by decide +kernel), km 762 (by decide +kernel) (by decide +kernel), by decide +kernel, by decide +kernel⟩
theorem lg_Law_79 : kCV "KeyCodecLaw" 79 M_Mod_load 2 6 := ⟨kb_Mod_load, km 759 (by decide +kernel) (by decide +kernel), km 760 (by decide +kernel) (by decide +kernel), km 761 (by decide +kernel) (by decide +kernel), (F_Mod, 23), rfl⟩
theorem kb_Kc_clearKey : kCB M_Kc_clearKey 0 := ⟨km 1 (by decide +kernel) (by decide +kernel), km 243 (by decide +kernel) (by decide +kernel), by decide +kernel, by decide +kernel⟩
theorem lg_Law_80 : kCV "KeyCodecLaw" 80 M_Kc_clearKey 0 0 := ⟨kb_Kc_clearKey, km 240 (by decide +kernel) (by decide +kernel), km 241 (by decide +kernel) (by decide +kernel), km 242 (by decide +kernel) (by decide +kernel), (F_Kc, 12), rfl⟩
theorem kb_Mod_clearKey : kCB M_Mod_clearKey 0 := ⟨km 6 (by decide +kernel) (by decide +kernel), km 766 (by decide +kernel) (by decide +kernel), by decide +kernel, by decide +kernel⟩
theorem lg_Law_83 : kCV "KeyCodecLaw" 83 M_Mod_clearKey 0 6 := ⟨kb_Mod_clearKey, km 763 (by decide +kernel) (by decide +kernel), km 764 (by decide +kernel) (by decide +kernel), km 765 (by decide +kernel) (by decide +kernel), (F_Mod, 23), rfl⟩
theorem kb_Kc_key : kCB M_Kc_key 1 := ⟨km 1 (by decide +kernel) (by decide +kernel), km 247 (by decide +kernel) (by decide +kernel), by decide +kernel, by decide +kernel⟩
theorem lg_Law_84 : kCV "KeyCodecLaw" 84 M_Kc_key 1 0 := ⟨kb_Kc_key, km 244 (by decide +kernel) (by decide +kernel), km 245 (by decide +kernel) (by decide +kernel), km 246 (by decide +kernel) (by decide +kernel), (F_Kc, 12), rfl⟩
theorem kb_Mod_key : kCB M_Mod_key 1 := ⟨km 6 (by decide +kernel) (by decide +kernel), km 770 (by decide +kernel) (by decide +kernel), by decide +kernel, by decide +kernel⟩
theorem lg_Law_88 : kCV "KeyCodecLaw" 88 M_Mod_key 1 6 := ⟨kb_Mod_key, km 767 (by decide +kernel) (by decide +kernel), km 768 (by decide +kernel) (by decide +kernel), km 769 (by decide +kernel) (by decide +kernel), (F_Mod, 23), rfl⟩
theorem lh_Law_89 : Cond.methodLink "KeyCodecLaw" (89 : Nat) ({ cls := "KeyCodecLaw", name := "decode", desc := "(LKeyCodec;[J)I" } : MethodName) ∈ kTs := km 491 (by decide +kernel) (by decide +kernel)
theorem ls_Law_decode : Cond.static ({ cls := "KeyCodecLaw", name := "decode", desc := "(LKeyCodec;[J)I" } : MethodName) ∈ kTs := km 492 (by decide +kernel) (by decide +kernel)
theorem cw_Law_decode : Cond.codeWith M_Law_decode.1 M_Law_decode.2.1 M_Law_decode.2.2.1 M_Law_decode.2.2.2 [(0, 15, 18, 15), (0, 15, 21, 13)] ∈ kTs := km 493 (by decide +kernel) (by decide +kernel)
theorem kb_Mod_decode : kCB M_Mod_decode 0 := ⟨km 6 (by decide +kernel) (by decide +kernel), km 774 (by decide +kernel) (by decide +kernel), by decide +kernel, by decide +kernel⟩
theorem lg_Law_91 : kCV "KeyCodecLaw" 91 M_Mod_decode 0 6 := ⟨kb_Mod_decode, km 771 (by decide +kernel) (by decide +kernel), km 772 (by decide +kernel) (by decide +kernel), km 773 (by decide +kernel) (by decide +kernel), (F_Mod, 23), rfl⟩
theorem lh_Law_92 : Cond.methodLink "KeyCodecLaw" (92 : Nat) ({ cls := "KeyCodecLaw", name := "keep", desc := "(LKeyCodec;[J)I" } : MethodName) ∈ kTs := km 574 (by decide +kernel) (by decide +kernel)
theorem ls_Law_keep : Cond.static ({ cls := "KeyCodecLaw", name := "keep", desc := "(LKeyCodec;[J)I" } : MethodName) ∈ kTs := km 575 (by decide +kernel) (by decide +kernel)
theorem cw_Law_keep : Cond.codeWith M_Law_keep.1 M_Law_keep.2.1 M_Law_keep.2.2.1 M_Law_keep.2.2.2 [(0, 8, 11, 15)] ∈ kTs := km 576 (by decide +kernel) (by decide +kernel)
theorem kb_Mod_keep : kCB M_Mod_keep 0 := ⟨km 6 (by decide +kernel) (by decide +kernel), km 814 (by decide +kernel) (by decide +kernel), by decide +kernel, by decide +kernel⟩
theorem lg_Law_94 : kCV "KeyCodecLaw" 94 M_Mod_keep 0 6 := ⟨kb_Mod_keep, km 811 (by decide +kernel) (by decide +kernel), km 812 (by decide +kernel) (by decide +kernel), km 813 (by decide +kernel) (by decide +kernel), (F_Mod, 23), rfl⟩
theorem kb_Kc_take : kCB M_Kc_take 1 := ⟨km 1 (by decide +kernel) (by decide +kernel), km 255 (by decide +kernel) (by decide +kernel), by decide +kernel, by decide +kernel⟩
theorem lg_Law_95 : kCV "KeyCodecLaw" 95 M_Kc_take 1 0 := ⟨kb_Kc_take, km 252 (by decide +kernel) (by decide +kernel), km 253 (by decide +kernel) (by decide +kernel), km 254 (by decide +kernel) (by decide +kernel), (F_Kc, 12), rfl⟩
theorem kb_Mod_take : kCB M_Mod_take 1 := ⟨km 6 (by decide +kernel) (by decide +kernel), km 818 (by decide +kernel) (by decide +kernel), by decide +kernel, by decide +kernel⟩
theorem lg_Law_98 : kCV "KeyCodecLaw" 98 M_Mod_take 1 6 := ⟨kb_Mod_take, km 815 (by decide +kernel) (by decide +kernel), km 816 (by decide +kernel) (by decide +kernel), km 817 (by decide +kernel) (by decide +kernel), (F_Mod, 23), rfl⟩
theorem kb_Kc_kept : kCB M_Kc_kept 0 := ⟨km 1 (by decide +kernel) (by decide +kernel), km 274 (by decide +kernel) (by decide +kernel), by decide +kernel, by decide +kernel⟩
theorem lg_Law_99 : kCV "KeyCodecLaw" 99 M_Kc_kept 0 0 := ⟨kb_Kc_kept, km 271 (by decide +kernel) (by decide +kernel), km 272 (by decide +kernel) (by decide +kernel), km 273 (by decide +kernel) (by decide +kernel), (F_Kc, 12), rfl⟩
theorem kb_Mod_kept : kCB M_Mod_kept 0 := ⟨km 6 (by decide +kernel) (by decide +kernel), km 826 (by decide +kernel) (by decide +kernel), by decide +kernel, by decide +kernel⟩
theorem lg_Law_102 : kCV "KeyCodecLaw" 102 M_Mod_kept 0 6 := ⟨kb_Mod_kept, km 823 (by decide +kernel) (by decide +kernel), km 824 (by decide +kernel) (by decide +kernel), km 825 (by decide +kernel) (by decide +kernel), (F_Mod, 23), rfl⟩
theorem kb_Kc_compare : kCB M_Kc_compare 2 := ⟨km 1 (by decide +kernel) (by decide +kernel), km 278 (by decide +kernel) (by decide +kernel), by decide +kernel, by decide +kernel⟩
theorem lg_Law_103 : kCV "KeyCodecLaw" 103 M_Kc_compare 2 0 := ⟨kb_Kc_compare, km 275 (by decide +kernel) (by decide +kernel), km 276 (by decide +kernel) (by decide +kernel), km 277 (by decide +kernel) (by decide +kernel), (F_Kc, 12), rfl⟩
theorem kb_Mod_compare : kCB M_Mod_compare 2 := ⟨km 6 (by decide +kernel) (by decide +kernel), km 830 (by decide +kernel) (by decide +kernel), by decide +kernel, by decide +kernel⟩
theorem lg_Law_106 : kCV "KeyCodecLaw" 106 M_Mod_compare 2 6 := ⟨kb_Mod_compare, km 827 (by decide +kernel) (by decide +kernel), km 828 (by decide +kernel) (by decide +kernel), km 829 (by decide +kernel) (by decide +kernel), (F_Mod, 23), rfl⟩
theorem kb_Kc_compareKeys : kCB M_Kc_compareKeys 2 := ⟨km 1 (by decide +kernel) (by decide +kernel), km 339 (by decide +kernel) (by decide +kernel), by decide +kernel, by decide +kernel⟩
theorem lg_Law_107 : kCV "KeyCodecLaw" 107 M_Kc_compareKeys 2 0 := ⟨kb_Kc_compareKeys, km 336 (by decide +kernel) (by decide +kernel), km 337 (by decide +kernel) (by decide +kernel), km 338 (by decide +kernel) (by decide +kernel), (F_Kc, 12), rfl⟩
theorem kb_Mod_compareKeys : kCB M_Mod_compareKeys 2 := ⟨km 6 (by decide +kernel) (by decide +kernel), km 853 (by decide +kernel) (by decide +kernel), by decide +kernel, by decide +kernel⟩
theorem lg_Law_110 : kCV "KeyCodecLaw" 110 M_Mod_compareKeys 2 6 := ⟨kb_Mod_compareKeys, km 850 (by decide +kernel) (by decide +kernel), km 851 (by decide +kernel) (by decide +kernel), km 852 (by decide +kernel) (by decide +kernel), (F_Mod, 23), rfl⟩
theorem kb_Kc_rank : kCB M_Kc_rank 1 := ⟨km 1 (by decide +kernel) (by decide +kernel), km 343 (by decide +kernel) (by decide +kernel), by decide +kernel, by decide +kernel⟩
theorem lg_Law_111 : kCV "KeyCodecLaw" 111 M_Kc_rank 1 0 := ⟨kb_Kc_rank, km 340 (by decide +kernel) (by decide +kernel), km 341 (by decide +kernel) (by decide +kernel), km 342 (by decide +kernel) (by decide +kernel), (F_Kc, 12), rfl⟩
theorem kb_Mod_rank : kCB M_Mod_rank 1 := ⟨km 6 (by decide +kernel) (by decide +kernel), km 861 (by decide +kernel) (by decide +kernel), by decide +kernel, by decide +kernel⟩
theorem lg_Law_114 : kCV "KeyCodecLaw" 114 M_Mod_rank 1 6 := ⟨kb_Mod_rank, km 858 (by decide +kernel) (by decide +kernel), km 859 (by decide +kernel) (by decide +kernel), km 860 (by decide +kernel) (by decide +kernel), (F_Mod, 23), rfl⟩
theorem kb_Kc_shared : kCB M_Kc_shared 1 := ⟨km 1 (by decide +kernel) (by decide +kernel), km 351 (by decide +kernel) (by decide +kernel), by decide +kernel, by decide +kernel⟩
theorem lg_Law_115 : kCV "KeyCodecLaw" 115 M_Kc_shared 1 0 := ⟨kb_Kc_shared, km 348 (by decide +kernel) (by decide +kernel), km 349 (by decide +kernel) (by decide +kernel), km 350 (by decide +kernel) (by decide +kernel), (F_Kc, 12), rfl⟩
theorem kb_Mod_shared : kCB M_Mod_shared 1 := ⟨km 6 (by decide +kernel) (by decide +kernel), km 869 (by decide +kernel) (by decide +kernel), by decide +kernel, by decide +kernel⟩
theorem lg_Law_118 : kCV "KeyCodecLaw" 118 M_Mod_shared 1 6 := ⟨kb_Mod_shared, km 866 (by decide +kernel) (by decide +kernel), km 867 (by decide +kernel) (by decide +kernel), km 868 (by decide +kernel) (by decide +kernel), (F_Mod, 23), rfl⟩
theorem kb_Kc_bounds : kCB M_Kc_bounds 2 := ⟨km 1 (by decide +kernel) (by decide +kernel), km 360 (by decide +kernel) (by decide +kernel), by decide +kernel, by decide +kernel⟩
theorem lg_Law_119 : kCV "KeyCodecLaw" 119 M_Kc_bounds 2 0 := ⟨kb_Kc_bounds, km 357 (by decide +kernel) (by decide +kernel), km 358 (by decide +kernel) (by decide +kernel), km 359 (by decide +kernel) (by decide +kernel), (F_Kc, 12), rfl⟩
theorem kb_Mod_bounds : kCB M_Mod_bounds 2 := ⟨km 6 (by decide +kernel) (by decide +kernel), km 877 (by decide +kernel) (by decide +kernel), by decide +kernel, by decide +kernel⟩
theorem lg_Law_122 : kCV "KeyCodecLaw" 122 M_Mod_bounds 2 6 := ⟨kb_Mod_bounds, km 874 (by decide +kernel) (by decide +kernel), km 875 (by decide +kernel) (by decide +kernel), km 876 (by decide +kernel) (by decide +kernel), (F_Mod, 23), rfl⟩
theorem kb_Kc_between : kCB M_Kc_between 4 := ⟨km 1 (by decide +kernel) (by decide +kernel), km 369 (by decide +kernel) (by decide +kernel), by decide +kernel, by decide +kernel⟩
theorem lg_Law_123 : kCV "KeyCodecLaw" 123 M_Kc_between 4 0 := ⟨kb_Kc_between, km 366 (by decide +kernel) (by decide +kernel), km 367 (by decide +kernel) (by decide +kernel), km 368 (by decide +kernel) (by decide +kernel), (F_Kc, 12), rfl⟩
theorem kb_Mod_between : kCB M_Mod_between 4 := ⟨km 6 (by decide +kernel) (by decide +kernel), km 881 (by decide +kernel) (by decide +kernel), by decide +kernel, by decide +kernel⟩
theorem lg_Law_127 : kCV "KeyCodecLaw" 127 M_Mod_between 4 6 := ⟨kb_Mod_between, km 878 (by decide +kernel) (by decide +kernel), km 879 (by decide +kernel) (by decide +kernel), km 880 (by decide +kernel) (by decide +kernel), (F_Mod, 23), rfl⟩
theorem kb_Kc_bound : kCB M_Kc_bound 2 := ⟨km 1 (by decide +kernel) (by decide +kernel), km 374 (by decide +kernel) (by decide +kernel), by decide +kernel, by decide +kernel⟩
theorem lg_Law_128 : kCV "KeyCodecLaw" 128 M_Kc_bound 2 0 := ⟨kb_Kc_bound, km 371 (by decide +kernel) (by decide +kernel), km 372 (by decide +kernel) (by decide +kernel), km 373 (by decide +kernel) (by decide +kernel), (F_Kc, 12), rfl⟩
theorem kb_Mod_bound : kCB M_Mod_bound 2 := ⟨km 6 (by decide +kernel) (by decide +kernel), km 889 (by decide +kernel) (by decide +kernel), by decide +kernel, by decide +kernel⟩
theorem lg_Law_131 : kCV "KeyCodecLaw" 131 M_Mod_bound 2 6 := ⟨kb_Mod_bound, km 886 (by decide +kernel) (by decide +kernel), km 887 (by decide +kernel) (by decide +kernel), km 888 (by decide +kernel) (by decide +kernel), (F_Mod, 23), rfl⟩
theorem kb_Kc_within : kCB M_Kc_within 1 := ⟨km 1 (by decide +kernel) (by decide +kernel), km 378 (by decide +kernel) (by decide +kernel), by decide +kernel, by decide +kernel⟩
theorem lg_Law_132 : kCV "KeyCodecLaw" 132 M_Kc_within 1 0 := ⟨kb_Kc_within, km 375 (by decide +kernel) (by decide +kernel), km 376 (by decide +kernel) (by decide +kernel), km 377 (by decide +kernel) (by decide +kernel), (F_Kc, 12), rfl⟩
theorem kb_Mod_within : kCB M_Mod_within 1 := ⟨km 6 (by decide +kernel) (by decide +kernel), km 893 (by decide +kernel) (by decide +kernel), by decide +kernel, by decide +kernel⟩
theorem lg_Law_135 : kCV "KeyCodecLaw" 135 M_Mod_within 1 6 := ⟨kb_Mod_within, km 890 (by decide +kernel) (by decide +kernel), km 891 (by decide +kernel) (by decide +kernel), km 892 (by decide +kernel) (by decide +kernel), (F_Mod, 23), rfl⟩
