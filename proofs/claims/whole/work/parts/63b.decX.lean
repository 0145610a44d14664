theorem d_L_law_0 : decode code 0 = .ok (.new 8, 3) := by decide +kernel
theorem d_L_law_3 : decode code 3 = .ok (.dup, 1) := by decide +kernel
theorem d_L_law_4 : decode code 4 = .ok (.invokespecial 105, 3) := by decide +kernel
theorem d_L_law_7 : decode code 7 = .ok (.astore_n 1, 1) := by decide +kernel
theorem d_L_law_8 : decode code 8 = .ok (.new 106, 3) := by decide +kernel
theorem d_L_law_11 : decode code 11 = .ok (.dup, 1) := by decide +kernel
theorem d_L_law_12 : decode code 12 = .ok (.invokespecial 108, 3) := by decide +kernel
theorem d_L_law_15 : decode code 15 = .ok (.astore_n 2, 1) := by decide +kernel
theorem d_L_law_16 : decode code 16 = .ok (.iconst 1, 1) := by decide +kernel
theorem d_L_law_17 : decode code 17 = .ok (.newarray .long, 2) := by decide +kernel
theorem d_L_law_19 : decode code 19 = .ok (.astore_n 3, 1) := by decide +kernel
theorem d_L_law_20 : decode code 20 = .ok (.iconst 0, 1) := by decide +kernel
theorem d_L_law_21 : decode code 21 = .ok (.istore 4, 2) := by decide +kernel
theorem d_L_law_23 : decode code 23 = .ok (.iload 4, 2) := by decide +kernel
theorem d_L_law_25 : decode code 25 = .ok (.aload_n 0, 1) := by decide +kernel
theorem d_L_law_26 : decode code 26 = .ok (.arraylength, 1) := by decide +kernel
theorem d_L_law_27 : decode code 27 = .ok (.iconst 4, 1) := by decide +kernel
theorem d_L_law_28 : decode code 28 = .ok (.isub, 1) := by decide +kernel
theorem d_L_law_29 : decode code 29 = .ok (.if_icmp .gt 1778, 3) := by decide +kernel
theorem d_L_law_32 : decode code 32 = .ok (.aload_n 0, 1) := by decide +kernel
theorem d_L_law_33 : decode code 33 = .ok (.iload 4, 2) := by decide +kernel
theorem d_L_law_35 : decode code 35 = .ok (.iaload, 1) := by decide +kernel
theorem d_L_law_36 : decode code 36 = .ok (.bipush 31, 2) := by decide +kernel
theorem d_L_law_38 : decode code 38 = .ok (.iand, 1) := by decide +kernel
theorem d_L_law_39 : decode code 39 = .ok (.tableswitch 1762 0 24 #[113, 169, 249, 305, 361, 429, 509, 569, 637, 685, 772, 852, 927, 995, 1063, 1143, 1199, 1267, 1347, 1422, 1470, 1554, 1610, 1646, 1714], 113) := by decide +kernel
theorem d_L_law_152 : decode code 152 = .ok (.aload_n 1, 1) := by decide +kernel
theorem d_L_law_153 : decode code 153 = .ok (.aload_n 0, 1) := by decide +kernel
theorem d_L_law_154 : decode code 154 = .ok (.iload 4, 2) := by decide +kernel
theorem d_L_law_156 : decode code 156 = .ok (.iconst 1, 1) := by decide +kernel
theorem d_L_law_157 : decode code 157 = .ok (.iadd, 1) := by decide +kernel
theorem d_L_law_158 : decode code 158 = .ok (.iaload, 1) := by decide +kernel
theorem d_L_law_159 : decode code 159 = .ok (.aload_n 3, 1) := by decide +kernel
theorem d_L_law_160 : decode code 160 = .ok (.invokestatic 109, 3) := by decide +kernel
theorem d_L_law_163 : decode code 163 = .ok (.istore 5, 2) := by decide +kernel
theorem d_L_law_165 : decode code 165 = .ok (.aload_n 2, 1) := by decide +kernel
theorem d_L_law_166 : decode code 166 = .ok (.aload_n 0, 1) := by decide +kernel
theorem d_L_law_167 : decode code 167 = .ok (.iload 4, 2) := by decide +kernel
theorem d_L_law_169 : decode code 169 = .ok (.iconst 1, 1) := by decide +kernel
theorem d_L_law_170 : decode code 170 = .ok (.iadd, 1) := by decide +kernel
theorem d_L_law_171 : decode code 171 = .ok (.iaload, 1) := by decide +kernel
theorem d_L_law_172 : decode code 172 = .ok (.invokevirtual 114, 3) := by decide +kernel
theorem d_L_law_175 : decode code 175 = .ok (.istore 6, 2) := by decide +kernel
theorem d_L_law_177 : decode code 177 = .ok (.aload_n 2, 1) := by decide +kernel
theorem d_L_law_178 : decode code 178 = .ok (.invokevirtual 115, 3) := by decide +kernel
theorem d_L_law_181 : decode code 181 = .ok (.iload 5, 2) := by decide +kernel
theorem d_L_law_183 : decode code 183 = .ok (.if_icmp .eq 5, 3) := by decide +kernel
theorem d_L_law_186 : decode code 186 = .ok (.iconst 0, 1) := by decide +kernel
theorem d_L_law_187 : decode code 187 = .ok (.ireturn, 1) := by decide +kernel
theorem d_L_law_188 : decode code 188 = .ok (.iload 5, 2) := by decide +kernel
theorem d_L_law_190 : decode code 190 = .ok (.ifCond .ne 15, 3) := by decide +kernel
theorem d_L_law_193 : decode code 193 = .ok (.aload_n 3, 1) := by decide +kernel
theorem d_L_law_194 : decode code 194 = .ok (.iconst 0, 1) := by decide +kernel
theorem d_L_law_195 : decode code 195 = .ok (.laload, 1) := by decide +kernel
theorem d_L_law_196 : decode code 196 = .ok (.iload 6, 2) := by decide +kernel
theorem d_L_law_198 : decode code 198 = .ok (.i2l, 1) := by decide +kernel
theorem d_L_law_199 : decode code 199 = .ok (.lcmp, 1) := by decide +kernel
theorem d_L_law_200 : decode code 200 = .ok (.ifCond .eq 5, 3) := by decide +kernel
theorem d_L_law_203 : decode code 203 = .ok (.iconst 0, 1) := by decide +kernel
theorem d_L_law_204 : decode code 204 = .ok (.ireturn, 1) := by decide +kernel
theorem d_L_law_205 : decode code 205 = .ok (.goto 1596, 3) := by decide +kernel
theorem d_L_law_208 : decode code 208 = .ok (.aload_n 1, 1) := by decide +kernel
theorem d_L_law_209 : decode code 209 = .ok (.aload_n 0, 1) := by decide +kernel
theorem d_L_law_210 : decode code 210 = .ok (.iload 4, 2) := by decide +kernel
theorem d_L_law_212 : decode code 212 = .ok (.iconst 1, 1) := by decide +kernel
theorem d_L_law_213 : decode code 213 = .ok (.iadd, 1) := by decide +kernel
theorem d_L_law_214 : decode code 214 = .ok (.iaload, 1) := by decide +kernel
theorem d_L_law_215 : decode code 215 = .ok (.aload_n 0, 1) := by decide +kernel
theorem d_L_law_216 : decode code 216 = .ok (.iload 4, 2) := by decide +kernel
theorem d_L_law_218 : decode code 218 = .ok (.iconst 2, 1) := by decide +kernel
theorem d_L_law_219 : decode code 219 = .ok (.iadd, 1) := by decide +kernel
theorem d_L_law_220 : decode code 220 = .ok (.iaload, 1) := by decide +kernel
theorem d_L_law_221 : decode code 221 = .ok (.aload_n 0, 1) := by decide +kernel
theorem d_L_law_222 : decode code 222 = .ok (.iload 4, 2) := by decide +kernel
theorem d_L_law_224 : decode code 224 = .ok (.iconst 3, 1) := by decide +kernel
theorem d_L_law_225 : decode code 225 = .ok (.iadd, 1) := by decide +kernel
theorem d_L_law_226 : decode code 226 = .ok (.iaload, 1) := by decide +kernel
theorem d_L_law_227 : decode code 227 = .ok (.aload_n 3, 1) := by decide +kernel
theorem d_L_law_228 : decode code 228 = .ok (.invokestatic 119, 3) := by decide +kernel
theorem d_L_law_231 : decode code 231 = .ok (.istore 5, 2) := by decide +kernel
theorem d_L_law_233 : decode code 233 = .ok (.aload_n 2, 1) := by decide +kernel
theorem d_L_law_234 : decode code 234 = .ok (.aload_n 0, 1) := by decide +kernel
theorem d_L_law_235 : decode code 235 = .ok (.iload 4, 2) := by decide +kernel
theorem d_L_law_237 : decode code 237 = .ok (.iconst 1, 1) := by decide +kernel
theorem d_L_law_238 : decode code 238 = .ok (.iadd, 1) := by decide +kernel
theorem d_L_law_239 : decode code 239 = .ok (.iaload, 1) := by decide +kernel
theorem d_L_law_240 : decode code 240 = .ok (.aload_n 0, 1) := by decide +kernel
theorem d_L_law_241 : decode code 241 = .ok (.iload 4, 2) := by decide +kernel
theorem d_L_law_243 : decode code 243 = .ok (.iconst 2, 1) := by decide +kernel
theorem d_L_law_244 : decode code 244 = .ok (.iadd, 1) := by decide +kernel
theorem d_L_law_245 : decode code 245 = .ok (.iaload, 1) := by decide +kernel
theorem d_L_law_246 : decode code 246 = .ok (.aload_n 0, 1) := by decide +kernel
theorem d_L_law_247 : decode code 247 = .ok (.iload 4, 2) := by decide +kernel
theorem d_L_law_249 : decode code 249 = .ok (.iconst 3, 1) := by decide +kernel
theorem d_L_law_250 : decode code 250 = .ok (.iadd, 1) := by decide +kernel
theorem d_L_law_251 : decode code 251 = .ok (.iaload, 1) := by decide +kernel
theorem d_L_law_252 : decode code 252 = .ok (.invokevirtual 122, 3) := by decide +kernel
theorem d_L_law_255 : decode code 255 = .ok (.istore 6, 2) := by decide +kernel
theorem d_L_law_257 : decode code 257 = .ok (.aload_n 2, 1) := by decide +kernel
theorem d_L_law_258 : decode code 258 = .ok (.invokevirtual 115, 3) := by decide +kernel
theorem d_L_law_261 : decode code 261 = .ok (.iload 5, 2) := by decide +kernel
theorem d_L_law_263 : decode code 263 = .ok (.if_icmp .eq 5, 3) := by decide +kernel
theorem d_L_law_266 : decode code 266 = .ok (.iconst 0, 1) := by decide +kernel
theorem d_L_law_267 : decode code 267 = .ok (.ireturn, 1) := by decide +kernel
theorem d_L_law_268 : decode code 268 = .ok (.iload 5, 2) := by decide +kernel
theorem d_L_law_270 : decode code 270 = .ok (.ifCond .ne 15, 3) := by decide +kernel
theorem d_L_law_273 : decode code 273 = .ok (.aload_n 3, 1) := by decide +kernel
theorem d_L_law_274 : decode code 274 = .ok (.iconst 0, 1) := by decide +kernel
theorem d_L_law_275 : decode code 275 = .ok (.laload, 1) := by decide +kernel
theorem d_L_law_276 : decode code 276 = .ok (.iload 6, 2) := by decide +kernel
theorem d_L_law_278 : decode code 278 = .ok (.i2l, 1) := by decide +kernel
theorem d_L_law_279 : decode code 279 = .ok (.lcmp, 1) := by decide +kernel
theorem d_L_law_280 : decode code 280 = .ok (.ifCond .eq 5, 3) := by decide +kernel
theorem d_L_law_283 : decode code 283 = .ok (.iconst 0, 1) := by decide +kernel
theorem d_L_law_284 : decode code 284 = .ok (.ireturn, 1) := by decide +kernel
theorem d_L_law_285 : decode code 285 = .ok (.goto 1516, 3) := by decide +kernel
theorem d_L_law_288 : decode code 288 = .ok (.aload_n 1, 1) := by decide +kernel
theorem d_L_law_289 : decode code 289 = .ok (.aload_n 0, 1) := by decide +kernel
theorem d_L_law_290 : decode code 290 = .ok (.iload 4, 2) := by decide +kernel
theorem d_L_law_292 : decode code 292 = .ok (.iconst 1, 1) := by decide +kernel
theorem d_L_law_293 : decode code 293 = .ok (.iadd, 1) := by decide +kernel
theorem d_L_law_294 : decode code 294 = .ok (.iaload, 1) := by decide +kernel
theorem d_L_law_295 : decode code 295 = .ok (.aload_n 3, 1) := by decide +kernel
theorem d_L_law_296 : decode code 296 = .ok (.invokestatic 123, 3) := by decide +kernel
theorem d_L_law_299 : decode code 299 = .ok (.istore 5, 2) := by decide +kernel
theorem d_L_law_301 : decode code 301 = .ok (.aload_n 2, 1) := by decide +kernel
theorem d_L_law_302 : decode code 302 = .ok (.aload_n 0, 1) := by decide +kernel
theorem d_L_law_303 : decode code 303 = .ok (.iload 4, 2) := by decide +kernel
theorem d_L_law_305 : decode code 305 = .ok (.iconst 1, 1) := by decide +kernel
theorem d_L_law_306 : decode code 306 = .ok (.iadd, 1) := by decide +kernel
theorem d_L_law_307 : decode code 307 = .ok (.iaload, 1) := by decide +kernel
theorem d_L_law_308 : decode code 308 = .ok (.invokevirtual 125, 3) := by decide +kernel
theorem d_L_law_311 : decode code 311 = .ok (.istore 6, 2) := by decide +kernel
theorem d_L_law_313 : decode code 313 = .ok (.aload_n 2, 1) := by decide +kernel
theorem d_L_law_314 : decode code 314 = .ok (.invokevirtual 115, 3) := by decide +kernel
theorem d_L_law_317 : decode code 317 = .ok (.iload 5, 2) := by decide +kernel
theorem d_L_law_319 : decode code 319 = .ok (.if_icmp .eq 5, 3) := by decide +kernel
theorem d_L_law_322 : decode code 322 = .ok (.iconst 0, 1) := by decide +kernel
theorem d_L_law_323 : decode code 323 = .ok (.ireturn, 1) := by decide +kernel
theorem d_L_law_324 : decode code 324 = .ok (.iload 5, 2) := by decide +kernel
theorem d_L_law_326 : decode code 326 = .ok (.ifCond .ne 15, 3) := by decide +kernel
theorem d_L_law_329 : decode code 329 = .ok (.aload_n 3, 1) := by decide +kernel
theorem d_L_law_330 : decode code 330 = .ok (.iconst 0, 1) := by decide +kernel
theorem d_L_law_331 : decode code 331 = .ok (.laload, 1) := by decide +kernel
theorem d_L_law_332 : decode code 332 = .ok (.iload 6, 2) := by decide +kernel
theorem d_L_law_334 : decode code 334 = .ok (.i2l, 1) := by decide +kernel
theorem d_L_law_335 : decode code 335 = .ok (.lcmp, 1) := by decide +kernel
theorem d_L_law_336 : decode code 336 = .ok (.ifCond .eq 5, 3) := by decide +kernel
theorem d_L_law_339 : decode code 339 = .ok (.iconst 0, 1) := by decide +kernel
theorem d_L_law_340 : decode code 340 = .ok (.ireturn, 1) := by decide +kernel
theorem d_L_law_341 : decode code 341 = .ok (.goto 1460, 3) := by decide +kernel
theorem d_L_law_344 : decode code 344 = .ok (.aload_n 1, 1) := by decide +kernel
theorem d_L_law_345 : decode code 345 = .ok (.aload_n 0, 1) := by decide +kernel
theorem d_L_law_346 : decode code 346 = .ok (.iload 4, 2) := by decide +kernel
theorem d_L_law_348 : decode code 348 = .ok (.iconst 1, 1) := by decide +kernel
theorem d_L_law_349 : decode code 349 = .ok (.iadd, 1) := by decide +kernel
theorem d_L_law_350 : decode code 350 = .ok (.iaload, 1) := by decide +kernel
theorem d_L_law_351 : decode code 351 = .ok (.aload_n 3, 1) := by decide +kernel
theorem d_L_law_352 : decode code 352 = .ok (.invokestatic 126, 3) := by decide +kernel
theorem d_L_law_355 : decode code 355 = .ok (.istore 5, 2) := by decide +kernel
theorem d_L_law_357 : decode code 357 = .ok (.aload_n 2, 1) := by decide +kernel
theorem d_L_law_358 : decode code 358 = .ok (.aload_n 0, 1) := by decide +kernel
theorem d_L_law_359 : decode code 359 = .ok (.iload 4, 2) := by decide +kernel
theorem d_L_law_361 : decode code 361 = .ok (.iconst 1, 1) := by decide +kernel
theorem d_L_law_362 : decode code 362 = .ok (.iadd, 1) := by decide +kernel
theorem d_L_law_363 : decode code 363 = .ok (.iaload, 1) := by decide +kernel
theorem d_L_law_364 : decode code 364 = .ok (.invokevirtual 128, 3) := by decide +kernel
theorem d_L_law_367 : decode code 367 = .ok (.istore 6, 2) := by decide +kernel
theorem d_L_law_369 : decode code 369 = .ok (.aload_n 2, 1) := by decide +kernel
theorem d_L_law_370 : decode code 370 = .ok (.invokevirtual 115, 3) := by decide +kernel
theorem d_L_law_373 : decode code 373 = .ok (.iload 5, 2) := by decide +kernel
theorem d_L_law_375 : decode code 375 = .ok (.if_icmp .eq 5, 3) := by decide +kernel
theorem d_L_law_378 : decode code 378 = .ok (.iconst 0, 1) := by decide +kernel
theorem d_L_law_379 : decode code 379 = .ok (.ireturn, 1) := by decide +kernel
theorem d_L_law_380 : decode code 380 = .ok (.iload 5, 2) := by decide +kernel
theorem d_L_law_382 : decode code 382 = .ok (.ifCond .ne 15, 3) := by decide +kernel
theorem d_L_law_385 : decode code 385 = .ok (.aload_n 3, 1) := by decide +kernel
theorem d_L_law_386 : decode code 386 = .ok (.iconst 0, 1) := by decide +kernel
theorem d_L_law_387 : decode code 387 = .ok (.laload, 1) := by decide +kernel
theorem d_L_law_388 : decode code 388 = .ok (.iload 6, 2) := by decide +kernel
theorem d_L_law_390 : decode code 390 = .ok (.i2l, 1) := by decide +kernel
theorem d_L_law_391 : decode code 391 = .ok (.lcmp, 1) := by decide +kernel
theorem d_L_law_392 : decode code 392 = .ok (.ifCond .eq 5, 3) := by decide +kernel
theorem d_L_law_395 : decode code 395 = .ok (.iconst 0, 1) := by decide +kernel
theorem d_L_law_396 : decode code 396 = .ok (.ireturn, 1) := by decide +kernel
theorem d_L_law_397 : decode code 397 = .ok (.goto 1404, 3) := by decide +kernel
theorem d_L_law_400 : decode code 400 = .ok (.aload_n 1, 1) := by decide +kernel
theorem d_L_law_401 : decode code 401 = .ok (.aload_n 0, 1) := by decide +kernel
theorem d_L_law_402 : decode code 402 = .ok (.iload 4, 2) := by decide +kernel
theorem d_L_law_404 : decode code 404 = .ok (.iconst 1, 1) := by decide +kernel
theorem d_L_law_405 : decode code 405 = .ok (.iadd, 1) := by decide +kernel
theorem d_L_law_406 : decode code 406 = .ok (.iaload, 1) := by decide +kernel
theorem d_L_law_407 : decode code 407 = .ok (.aload_n 0, 1) := by decide +kernel
theorem d_L_law_408 : decode code 408 = .ok (.iload 4, 2) := by decide +kernel
theorem d_L_law_410 : decode code 410 = .ok (.iconst 2, 1) := by decide +kernel
theorem d_L_law_411 : decode code 411 = .ok (.iadd, 1) := by decide +kernel
theorem d_L_law_412 : decode code 412 = .ok (.iaload, 1) := by decide +kernel
theorem d_L_law_413 : decode code 413 = .ok (.aload_n 3, 1) := by decide +kernel
theorem d_L_law_414 : decode code 414 = .ok (.invokestatic 129, 3) := by decide +kernel
theorem d_L_law_417 : decode code 417 = .ok (.istore 5, 2) := by decide +kernel
theorem d_L_law_419 : decode code 419 = .ok (.aload_n 2, 1) := by decide +kernel
theorem d_L_law_420 : decode code 420 = .ok (.aload_n 0, 1) := by decide +kernel
theorem d_L_law_421 : decode code 421 = .ok (.iload 4, 2) := by decide +kernel
theorem d_L_law_423 : decode code 423 = .ok (.iconst 1, 1) := by decide +kernel
theorem d_L_law_424 : decode code 424 = .ok (.iadd, 1) := by decide +kernel
theorem d_L_law_425 : decode code 425 = .ok (.iaload, 1) := by decide +kernel
theorem d_L_law_426 : decode code 426 = .ok (.aload_n 0, 1) := by decide +kernel
theorem d_L_law_427 : decode code 427 = .ok (.iload 4, 2) := by decide +kernel
theorem d_L_law_429 : decode code 429 = .ok (.iconst 2, 1) := by decide +kernel
theorem d_L_law_430 : decode code 430 = .ok (.iadd, 1) := by decide +kernel
theorem d_L_law_431 : decode code 431 = .ok (.iaload, 1) := by decide +kernel
theorem d_L_law_432 : decode code 432 = .ok (.invokevirtual 132, 3) := by decide +kernel
theorem d_L_law_435 : decode code 435 = .ok (.istore 6, 2) := by decide +kernel
theorem d_L_law_437 : decode code 437 = .ok (.aload_n 2, 1) := by decide +kernel
theorem d_L_law_438 : decode code 438 = .ok (.invokevirtual 115, 3) := by decide +kernel
theorem d_L_law_441 : decode code 441 = .ok (.iload 5, 2) := by decide +kernel
theorem d_L_law_443 : decode code 443 = .ok (.if_icmp .eq 5, 3) := by decide +kernel
theorem d_L_law_446 : decode code 446 = .ok (.iconst 0, 1) := by decide +kernel
theorem d_L_law_447 : decode code 447 = .ok (.ireturn, 1) := by decide +kernel
theorem d_L_law_448 : decode code 448 = .ok (.iload 5, 2) := by decide +kernel
theorem d_L_law_450 : decode code 450 = .ok (.ifCond .ne 15, 3) := by decide +kernel
theorem d_L_law_453 : decode code 453 = .ok (.aload_n 3, 1) := by decide +kernel
theorem d_L_law_454 : decode code 454 = .ok (.iconst 0, 1) := by decide +kernel
theorem d_L_law_455 : decode code 455 = .ok (.laload, 1) := by decide +kernel
theorem d_L_law_456 : decode code 456 = .ok (.iload 6, 2) := by decide +kernel
theorem d_L_law_458 : decode code 458 = .ok (.i2l, 1) := by decide +kernel
theorem d_L_law_459 : decode code 459 = .ok (.lcmp, 1) := by decide +kernel
theorem d_L_law_460 : decode code 460 = .ok (.ifCond .eq 5, 3) := by decide +kernel
theorem d_L_law_463 : decode code 463 = .ok (.iconst 0, 1) := by decide +kernel
theorem d_L_law_464 : decode code 464 = .ok (.ireturn, 1) := by decide +kernel
theorem d_L_law_465 : decode code 465 = .ok (.goto 1336, 3) := by decide +kernel
theorem d_L_law_468 : decode code 468 = .ok (.aload_n 1, 1) := by decide +kernel
theorem d_L_law_469 : decode code 469 = .ok (.aload_n 0, 1) := by decide +kernel
theorem d_L_law_470 : decode code 470 = .ok (.iload 4, 2) := by decide +kernel
theorem d_L_law_472 : decode code 472 = .ok (.iconst 1, 1) := by decide +kernel
theorem d_L_law_473 : decode code 473 = .ok (.iadd, 1) := by decide +kernel
theorem d_L_law_474 : decode code 474 = .ok (.iaload, 1) := by decide +kernel
theorem d_L_law_475 : decode code 475 = .ok (.aload_n 0, 1) := by decide +kernel
theorem d_L_law_476 : decode code 476 = .ok (.iload 4, 2) := by decide +kernel
theorem d_L_law_478 : decode code 478 = .ok (.iconst 2, 1) := by decide +kernel
theorem d_L_law_479 : decode code 479 = .ok (.iadd, 1) := by decide +kernel
theorem d_L_law_480 : decode code 480 = .ok (.iaload, 1) := by decide +kernel
theorem d_L_law_481 : decode code 481 = .ok (.aload_n 0, 1) := by decide +kernel
theorem d_L_law_482 : decode code 482 = .ok (.iload 4, 2) := by decide +kernel
theorem d_L_law_484 : decode code 484 = .ok (.iconst 3, 1) := by decide +kernel
theorem d_L_law_485 : decode code 485 = .ok (.iadd, 1) := by decide +kernel
theorem d_L_law_486 : decode code 486 = .ok (.iaload, 1) := by decide +kernel
theorem d_L_law_487 : decode code 487 = .ok (.aload_n 3, 1) := by decide +kernel
theorem d_L_law_488 : decode code 488 = .ok (.invokestatic 133, 3) := by decide +kernel
theorem d_L_law_491 : decode code 491 = .ok (.istore 5, 2) := by decide +kernel
theorem d_L_law_493 : decode code 493 = .ok (.aload_n 2, 1) := by decide +kernel
theorem d_L_law_494 : decode code 494 = .ok (.aload_n 0, 1) := by decide +kernel
theorem d_L_law_495 : decode code 495 = .ok (.iload 4, 2) := by decide +kernel
theorem d_L_law_497 : decode code 497 = .ok (.iconst 1, 1) := by decide +kernel
theorem d_L_law_498 : decode code 498 = .ok (.iadd, 1) := by decide +kernel
theorem d_L_law_499 : decode code 499 = .ok (.iaload, 1) := by decide +kernel
theorem d_L_law_500 : decode code 500 = .ok (.aload_n 0, 1) := by decide +kernel
theorem d_L_law_501 : decode code 501 = .ok (.iload 4, 2) := by decide +kernel
theorem d_L_law_503 : decode code 503 = .ok (.iconst 2, 1) := by decide +kernel
theorem d_L_law_504 : decode code 504 = .ok (.iadd, 1) := by decide +kernel
theorem d_L_law_505 : decode code 505 = .ok (.iaload, 1) := by decide +kernel
theorem d_L_law_506 : decode code 506 = .ok (.aload_n 0, 1) := by decide +kernel
theorem d_L_law_507 : decode code 507 = .ok (.iload 4, 2) := by decide +kernel
theorem d_L_law_509 : decode code 509 = .ok (.iconst 3, 1) := by decide +kernel
theorem d_L_law_510 : decode code 510 = .ok (.iadd, 1) := by decide +kernel
theorem d_L_law_511 : decode code 511 = .ok (.iaload, 1) := by decide +kernel
theorem d_L_law_512 : decode code 512 = .ok (.invokevirtual 135, 3) := by decide +kernel
theorem d_L_law_515 : decode code 515 = .ok (.istore 6, 2) := by decide +kernel
theorem d_L_law_517 : decode code 517 = .ok (.aload_n 2, 1) := by decide +kernel
theorem d_L_law_518 : decode code 518 = .ok (.invokevirtual 115, 3) := by decide +kernel
theorem d_L_law_521 : decode code 521 = .ok (.iload 5, 2) := by decide +kernel
theorem d_L_law_523 : decode code 523 = .ok (.if_icmp .eq 5, 3) := by decide +kernel
theorem d_L_law_526 : decode code 526 = .ok (.iconst 0, 1) := by decide +kernel
theorem d_L_law_527 : decode code 527 = .ok (.ireturn, 1) := by decide +kernel
theorem d_L_law_528 : decode code 528 = .ok (.iload 5, 2) := by decide +kernel
theorem d_L_law_530 : decode code 530 = .ok (.ifCond .ne 15, 3) := by decide +kernel
theorem d_L_law_533 : decode code 533 = .ok (.aload_n 3, 1) := by decide +kernel
theorem d_L_law_534 : decode code 534 = .ok (.iconst 0, 1) := by decide +kernel
theorem d_L_law_535 : decode code 535 = .ok (.laload, 1) := by decide +kernel
theorem d_L_law_536 : decode code 536 = .ok (.iload 6, 2) := by decide +kernel
theorem d_L_law_538 : decode code 538 = .ok (.i2l, 1) := by decide +kernel
theorem d_L_law_539 : decode code 539 = .ok (.lcmp, 1) := by decide +kernel
theorem d_L_law_540 : decode code 540 = .ok (.ifCond .eq 5, 3) := by decide +kernel
theorem d_L_law_543 : decode code 543 = .ok (.iconst 0, 1) := by decide +kernel
theorem d_L_law_544 : decode code 544 = .ok (.ireturn, 1) := by decide +kernel
theorem d_L_law_545 : decode code 545 = .ok (.goto 1256, 3) := by decide +kernel
theorem d_L_law_548 : decode code 548 = .ok (.aload_n 1, 1) := by decide +kernel
theorem d_L_law_549 : decode code 549 = .ok (.aload_n 0, 1) := by decide +kernel
theorem d_L_law_550 : decode code 550 = .ok (.iload 4, 2) := by decide +kernel
theorem d_L_law_552 : decode code 552 = .ok (.iconst 1, 1) := by decide +kernel
theorem d_L_law_553 : decode code 553 = .ok (.iadd, 1) := by decide +kernel
theorem d_L_law_554 : decode code 554 = .ok (.iaload, 1) := by decide +kernel
theorem d_L_law_555 : decode code 555 = .ok (.aload_n 0, 1) := by decide +kernel
theorem d_L_law_556 : decode code 556 = .ok (.iload 4, 2) := by decide +kernel
theorem d_L_law_558 : decode code 558 = .ok (.iconst 2, 1) := by decide +kernel
theorem d_L_law_559 : decode code 559 = .ok (.iadd, 1) := by decide +kernel
theorem d_L_law_560 : decode code 560 = .ok (.iaload, 1) := by decide +kernel
theorem d_L_law_561 : decode code 561 = .ok (.aload_n 0, 1) := by decide +kernel
theorem d_L_law_562 : decode code 562 = .ok (.iload 4, 2) := by decide +kernel
theorem d_L_law_564 : decode code 564 = .ok (.iconst 3, 1) := by decide +kernel
theorem d_L_law_565 : decode code 565 = .ok (.iadd, 1) := by decide +kernel
theorem d_L_law_566 : decode code 566 = .ok (.iaload, 1) := by decide +kernel
theorem d_L_law_567 : decode code 567 = .ok (.invokestatic 136, 3) := by decide +kernel
theorem d_L_law_570 : decode code 570 = .ok (.istore 5, 2) := by decide +kernel
theorem d_L_law_572 : decode code 572 = .ok (.aload_n 2, 1) := by decide +kernel
theorem d_L_law_573 : decode code 573 = .ok (.aload_n 0, 1) := by decide +kernel
theorem d_L_law_574 : decode code 574 = .ok (.iload 4, 2) := by decide +kernel
theorem d_L_law_576 : decode code 576 = .ok (.iconst 1, 1) := by decide +kernel
theorem d_L_law_577 : decode code 577 = .ok (.iadd, 1) := by decide +kernel
theorem d_L_law_578 : decode code 578 = .ok (.iaload, 1) := by decide +kernel
theorem d_L_law_579 : decode code 579 = .ok (.aload_n 0, 1) := by decide +kernel
theorem d_L_law_580 : decode code 580 = .ok (.iload 4, 2) := by decide +kernel
theorem d_L_law_582 : decode code 582 = .ok (.iconst 2, 1) := by decide +kernel
theorem d_L_law_583 : decode code 583 = .ok (.iadd, 1) := by decide +kernel
theorem d_L_law_584 : decode code 584 = .ok (.iaload, 1) := by decide +kernel
theorem d_L_law_585 : decode code 585 = .ok (.aload_n 0, 1) := by decide +kernel
theorem d_L_law_586 : decode code 586 = .ok (.iload 4, 2) := by decide +kernel
theorem d_L_law_588 : decode code 588 = .ok (.iconst 3, 1) := by decide +kernel
theorem d_L_law_589 : decode code 589 = .ok (.iadd, 1) := by decide +kernel
theorem d_L_law_590 : decode code 590 = .ok (.iaload, 1) := by decide +kernel
theorem d_L_law_591 : decode code 591 = .ok (.invokevirtual 139, 3) := by decide +kernel
theorem d_L_law_594 : decode code 594 = .ok (.aload_n 2, 1) := by decide +kernel
theorem d_L_law_595 : decode code 595 = .ok (.invokevirtual 115, 3) := by decide +kernel
theorem d_L_law_598 : decode code 598 = .ok (.iload 5, 2) := by decide +kernel
theorem d_L_law_600 : decode code 600 = .ok (.if_icmp .eq 5, 3) := by decide +kernel
theorem d_L_law_603 : decode code 603 = .ok (.iconst 0, 1) := by decide +kernel
theorem d_L_law_604 : decode code 604 = .ok (.ireturn, 1) := by decide +kernel
theorem d_L_law_605 : decode code 605 = .ok (.goto 1196, 3) := by decide +kernel
theorem d_L_law_608 : decode code 608 = .ok (.aload_n 1, 1) := by decide +kernel
theorem d_L_law_609 : decode code 609 = .ok (.aload_n 0, 1) := by decide +kernel
theorem d_L_law_610 : decode code 610 = .ok (.iload 4, 2) := by decide +kernel
theorem d_L_law_612 : decode code 612 = .ok (.iconst 1, 1) := by decide +kernel
theorem d_L_law_613 : decode code 613 = .ok (.iadd, 1) := by decide +kernel
theorem d_L_law_614 : decode code 614 = .ok (.iaload, 1) := by decide +kernel
theorem d_L_law_615 : decode code 615 = .ok (.aload_n 0, 1) := by decide +kernel
theorem d_L_law_616 : decode code 616 = .ok (.iload 4, 2) := by decide +kernel
theorem d_L_law_618 : decode code 618 = .ok (.iconst 2, 1) := by decide +kernel
theorem d_L_law_619 : decode code 619 = .ok (.iadd, 1) := by decide +kernel
theorem d_L_law_620 : decode code 620 = .ok (.iaload, 1) := by decide +kernel
theorem d_L_law_621 : decode code 621 = .ok (.aload_n 3, 1) := by decide +kernel
theorem d_L_law_622 : decode code 622 = .ok (.invokestatic 140, 3) := by decide +kernel
theorem d_L_law_625 : decode code 625 = .ok (.istore 5, 2) := by decide +kernel
theorem d_L_law_627 : decode code 627 = .ok (.aload_n 2, 1) := by decide +kernel
theorem d_L_law_628 : decode code 628 = .ok (.aload_n 0, 1) := by decide +kernel
theorem d_L_law_629 : decode code 629 = .ok (.iload 4, 2) := by decide +kernel
theorem d_L_law_631 : decode code 631 = .ok (.iconst 1, 1) := by decide +kernel
theorem d_L_law_632 : decode code 632 = .ok (.iadd, 1) := by decide +kernel
theorem d_L_law_633 : decode code 633 = .ok (.iaload, 1) := by decide +kernel
theorem d_L_law_634 : decode code 634 = .ok (.aload_n 0, 1) := by decide +kernel
theorem d_L_law_635 : decode code 635 = .ok (.iload 4, 2) := by decide +kernel
theorem d_L_law_637 : decode code 637 = .ok (.iconst 2, 1) := by decide +kernel
theorem d_L_law_638 : decode code 638 = .ok (.iadd, 1) := by decide +kernel
theorem d_L_law_639 : decode code 639 = .ok (.iaload, 1) := by decide +kernel
theorem d_L_law_640 : decode code 640 = .ok (.invokevirtual 142, 3) := by decide +kernel
theorem d_L_law_643 : decode code 643 = .ok (.istore 6, 2) := by decide +kernel
theorem d_L_law_645 : decode code 645 = .ok (.aload_n 2, 1) := by decide +kernel
theorem d_L_law_646 : decode code 646 = .ok (.invokevirtual 115, 3) := by decide +kernel
theorem d_L_law_649 : decode code 649 = .ok (.iload 5, 2) := by decide +kernel
theorem d_L_law_651 : decode code 651 = .ok (.if_icmp .eq 5, 3) := by decide +kernel
theorem d_L_law_654 : decode code 654 = .ok (.iconst 0, 1) := by decide +kernel
theorem d_L_law_655 : decode code 655 = .ok (.ireturn, 1) := by decide +kernel
theorem d_L_law_656 : decode code 656 = .ok (.iload 5, 2) := by decide +kernel
theorem d_L_law_658 : decode code 658 = .ok (.ifCond .ne 15, 3) := by decide +kernel
theorem d_L_law_661 : decode code 661 = .ok (.aload_n 3, 1) := by decide +kernel
theorem d_L_law_662 : decode code 662 = .ok (.iconst 0, 1) := by decide +kernel
theorem d_L_law_663 : decode code 663 = .ok (.laload, 1) := by decide +kernel
theorem d_L_law_664 : decode code 664 = .ok (.iload 6, 2) := by decide +kernel
theorem d_L_law_666 : decode code 666 = .ok (.i2l, 1) := by decide +kernel
theorem d_L_law_667 : decode code 667 = .ok (.lcmp, 1) := by decide +kernel
theorem d_L_law_668 : decode code 668 = .ok (.ifCond .eq 5, 3) := by decide +kernel
theorem d_L_law_671 : decode code 671 = .ok (.iconst 0, 1) := by decide +kernel
theorem d_L_law_672 : decode code 672 = .ok (.ireturn, 1) := by decide +kernel
theorem d_L_law_673 : decode code 673 = .ok (.goto 1128, 3) := by decide +kernel
theorem d_L_law_676 : decode code 676 = .ok (.aload_n 1, 1) := by decide +kernel
theorem d_L_law_677 : decode code 677 = .ok (.aload_n 0, 1) := by decide +kernel
theorem d_L_law_678 : decode code 678 = .ok (.iload 4, 2) := by decide +kernel
theorem d_L_law_680 : decode code 680 = .ok (.iconst 1, 1) := by decide +kernel
theorem d_L_law_681 : decode code 681 = .ok (.iadd, 1) := by decide +kernel
theorem d_L_law_682 : decode code 682 = .ok (.iaload, 1) := by decide +kernel
theorem d_L_law_683 : decode code 683 = .ok (.aload_n 0, 1) := by decide +kernel
theorem d_L_law_684 : decode code 684 = .ok (.iload 4, 2) := by decide +kernel
theorem d_L_law_686 : decode code 686 = .ok (.iconst 2, 1) := by decide +kernel
theorem d_L_law_687 : decode code 687 = .ok (.iadd, 1) := by decide +kernel
theorem d_L_law_688 : decode code 688 = .ok (.iaload, 1) := by decide +kernel
theorem d_L_law_689 : decode code 689 = .ok (.invokestatic 143, 3) := by decide +kernel
theorem d_L_law_692 : decode code 692 = .ok (.istore 5, 2) := by decide +kernel
theorem d_L_law_694 : decode code 694 = .ok (.aload_n 2, 1) := by decide +kernel
theorem d_L_law_695 : decode code 695 = .ok (.aload_n 0, 1) := by decide +kernel
theorem d_L_law_696 : decode code 696 = .ok (.iload 4, 2) := by decide +kernel
theorem d_L_law_698 : decode code 698 = .ok (.iconst 1, 1) := by decide +kernel
theorem d_L_law_699 : decode code 699 = .ok (.iadd, 1) := by decide +kernel
theorem d_L_law_700 : decode code 700 = .ok (.iaload, 1) := by decide +kernel
theorem d_L_law_701 : decode code 701 = .ok (.aload_n 0, 1) := by decide +kernel
theorem d_L_law_702 : decode code 702 = .ok (.iload 4, 2) := by decide +kernel
theorem d_L_law_704 : decode code 704 = .ok (.iconst 2, 1) := by decide +kernel
theorem d_L_law_705 : decode code 705 = .ok (.iadd, 1) := by decide +kernel
theorem d_L_law_706 : decode code 706 = .ok (.iaload, 1) := by decide +kernel
theorem d_L_law_707 : decode code 707 = .ok (.invokevirtual 146, 3) := by decide +kernel
theorem d_L_law_710 : decode code 710 = .ok (.aload_n 2, 1) := by decide +kernel
theorem d_L_law_711 : decode code 711 = .ok (.invokevirtual 115, 3) := by decide +kernel
theorem d_L_law_714 : decode code 714 = .ok (.iload 5, 2) := by decide +kernel
theorem d_L_law_716 : decode code 716 = .ok (.if_icmp .eq 5, 3) := by decide +kernel
theorem d_L_law_719 : decode code 719 = .ok (.iconst 0, 1) := by decide +kernel
theorem d_L_law_720 : decode code 720 = .ok (.ireturn, 1) := by decide +kernel
theorem d_L_law_721 : decode code 721 = .ok (.goto 1080, 3) := by decide +kernel
theorem d_L_law_724 : decode code 724 = .ok (.aload_n 1, 1) := by decide +kernel
theorem d_L_law_725 : decode code 725 = .ok (.aload_n 0, 1) := by decide +kernel
theorem d_L_law_726 : decode code 726 = .ok (.iload 4, 2) := by decide +kernel
theorem d_L_law_728 : decode code 728 = .ok (.iconst 1, 1) := by decide +kernel
theorem d_L_law_729 : decode code 729 = .ok (.iadd, 1) := by decide +kernel
theorem d_L_law_730 : decode code 730 = .ok (.iaload, 1) := by decide +kernel
theorem d_L_law_731 : decode code 731 = .ok (.aload_n 0, 1) := by decide +kernel
theorem d_L_law_732 : decode code 732 = .ok (.iload 4, 2) := by decide +kernel
theorem d_L_law_734 : decode code 734 = .ok (.iconst 2, 1) := by decide +kernel
theorem d_L_law_735 : decode code 735 = .ok (.iadd, 1) := by decide +kernel
theorem d_L_law_736 : decode code 736 = .ok (.iaload, 1) := by decide +kernel
theorem d_L_law_737 : decode code 737 = .ok (.aload_n 0, 1) := by decide +kernel
theorem d_L_law_738 : decode code 738 = .ok (.iload 4, 2) := by decide +kernel
theorem d_L_law_740 : decode code 740 = .ok (.iconst 3, 1) := by decide +kernel
theorem d_L_law_741 : decode code 741 = .ok (.iadd, 1) := by decide +kernel
theorem d_L_law_742 : decode code 742 = .ok (.iaload, 1) := by decide +kernel
theorem d_L_law_743 : decode code 743 = .ok (.aload_n 3, 1) := by decide +kernel
theorem d_L_law_744 : decode code 744 = .ok (.invokestatic 147, 3) := by decide +kernel
theorem d_L_law_747 : decode code 747 = .ok (.istore 5, 2) := by decide +kernel
theorem d_L_law_749 : decode code 749 = .ok (.aload_n 2, 1) := by decide +kernel
theorem d_L_law_750 : decode code 750 = .ok (.aload_n 0, 1) := by decide +kernel
theorem d_L_law_751 : decode code 751 = .ok (.iload 4, 2) := by decide +kernel
theorem d_L_law_753 : decode code 753 = .ok (.iconst 1, 1) := by decide +kernel
theorem d_L_law_754 : decode code 754 = .ok (.iadd, 1) := by decide +kernel
theorem d_L_law_755 : decode code 755 = .ok (.iaload, 1) := by decide +kernel
theorem d_L_law_756 : decode code 756 = .ok (.aload_n 0, 1) := by decide +kernel
theorem d_L_law_757 : decode code 757 = .ok (.iload 4, 2) := by decide +kernel
theorem d_L_law_759 : decode code 759 = .ok (.iconst 2, 1) := by decide +kernel
theorem d_L_law_760 : decode code 760 = .ok (.iadd, 1) := by decide +kernel
theorem d_L_law_761 : decode code 761 = .ok (.iaload, 1) := by decide +kernel
theorem d_L_law_762 : decode code 762 = .ok (.aload_n 0, 1) := by decide +kernel
theorem d_L_law_763 : decode code 763 = .ok (.iload 4, 2) := by decide +kernel
theorem d_L_law_765 : decode code 765 = .ok (.iconst 3, 1) := by decide +kernel
theorem d_L_law_766 : decode code 766 = .ok (.iadd, 1) := by decide +kernel
theorem d_L_law_767 : decode code 767 = .ok (.iaload, 1) := by decide +kernel
theorem d_L_law_768 : decode code 768 = .ok (.invokevirtual 149, 3) := by decide +kernel
theorem d_L_law_771 : decode code 771 = .ok (.istore 6, 2) := by decide +kernel
theorem d_L_law_773 : decode code 773 = .ok (.aload_n 2, 1) := by decide +kernel
theorem d_L_law_774 : decode code 774 = .ok (.invokevirtual 115, 3) := by decide +kernel
theorem d_L_law_777 : decode code 777 = .ok (.iload 5, 2) := by decide +kernel
theorem d_L_law_779 : decode code 779 = .ok (.if_icmp .eq 5, 3) := by decide +kernel
theorem d_L_law_782 : decode code 782 = .ok (.iconst 0, 1) := by decide +kernel
theorem d_L_law_783 : decode code 783 = .ok (.ireturn, 1) := by decide +kernel
theorem d_L_law_784 : decode code 784 = .ok (.iload 5, 2) := by decide +kernel
theorem d_L_law_786 : decode code 786 = .ok (.ifCond .ne 22, 3) := by decide +kernel
theorem d_L_law_789 : decode code 789 = .ok (.aload_n 3, 1) := by decide +kernel
theorem d_L_law_790 : decode code 790 = .ok (.iconst 0, 1) := by decide +kernel
theorem d_L_law_791 : decode code 791 = .ok (.laload, 1) := by decide +kernel
theorem d_L_law_792 : decode code 792 = .ok (.iload 6, 2) := by decide +kernel
theorem d_L_law_794 : decode code 794 = .ok (.ifCond .eq 7, 3) := by decide +kernel
theorem d_L_law_797 : decode code 797 = .ok (.lconst 1, 1) := by decide +kernel
theorem d_L_law_798 : decode code 798 = .ok (.goto 4, 3) := by decide +kernel
theorem d_L_law_801 : decode code 801 = .ok (.lconst 0, 1) := by decide +kernel
theorem d_L_law_802 : decode code 802 = .ok (.lcmp, 1) := by decide +kernel
theorem d_L_law_803 : decode code 803 = .ok (.ifCond .eq 5, 3) := by decide +kernel
theorem d_L_law_806 : decode code 806 = .ok (.iconst 0, 1) := by decide +kernel
theorem d_L_law_807 : decode code 807 = .ok (.ireturn, 1) := by decide +kernel
theorem d_L_law_808 : decode code 808 = .ok (.goto 993, 3) := by decide +kernel
theorem d_L_law_811 : decode code 811 = .ok (.aload_n 1, 1) := by decide +kernel
theorem d_L_law_812 : decode code 812 = .ok (.aload_n 0, 1) := by decide +kernel
theorem d_L_law_813 : decode code 813 = .ok (.iload 4, 2) := by decide +kernel
theorem d_L_law_815 : decode code 815 = .ok (.iconst 1, 1) := by decide +kernel
theorem d_L_law_816 : decode code 816 = .ok (.iadd, 1) := by decide +kernel
theorem d_L_law_817 : decode code 817 = .ok (.iaload, 1) := by decide +kernel
theorem d_L_law_818 : decode code 818 = .ok (.aload_n 0, 1) := by decide +kernel
theorem d_L_law_819 : decode code 819 = .ok (.iload 4, 2) := by decide +kernel
theorem d_L_law_821 : decode code 821 = .ok (.iconst 2, 1) := by decide +kernel
theorem d_L_law_822 : decode code 822 = .ok (.iadd, 1) := by decide +kernel
theorem d_L_law_823 : decode code 823 = .ok (.iaload, 1) := by decide +kernel
theorem d_L_law_824 : decode code 824 = .ok (.aload_n 0, 1) := by decide +kernel
theorem d_L_law_825 : decode code 825 = .ok (.iload 4, 2) := by decide +kernel
theorem d_L_law_827 : decode code 827 = .ok (.iconst 3, 1) := by decide +kernel
theorem d_L_law_828 : decode code 828 = .ok (.iadd, 1) := by decide +kernel
theorem d_L_law_829 : decode code 829 = .ok (.iaload, 1) := by decide +kernel
theorem d_L_law_830 : decode code 830 = .ok (.aload_n 3, 1) := by decide +kernel
theorem d_L_law_831 : decode code 831 = .ok (.invokestatic 150, 3) := by decide +kernel
theorem d_L_law_834 : decode code 834 = .ok (.istore 5, 2) := by decide +kernel
theorem d_L_law_836 : decode code 836 = .ok (.aload_n 2, 1) := by decide +kernel
theorem d_L_law_837 : decode code 837 = .ok (.aload_n 0, 1) := by decide +kernel
theorem d_L_law_838 : decode code 838 = .ok (.iload 4, 2) := by decide +kernel
theorem d_L_law_840 : decode code 840 = .ok (.iconst 1, 1) := by decide +kernel
theorem d_L_law_841 : decode code 841 = .ok (.iadd, 1) := by decide +kernel
theorem d_L_law_842 : decode code 842 = .ok (.iaload, 1) := by decide +kernel
theorem d_L_law_843 : decode code 843 = .ok (.aload_n 0, 1) := by decide +kernel
theorem d_L_law_844 : decode code 844 = .ok (.iload 4, 2) := by decide +kernel
theorem d_L_law_846 : decode code 846 = .ok (.iconst 2, 1) := by decide +kernel
theorem d_L_law_847 : decode code 847 = .ok (.iadd, 1) := by decide +kernel
theorem d_L_law_848 : decode code 848 = .ok (.iaload, 1) := by decide +kernel
theorem d_L_law_849 : decode code 849 = .ok (.aload_n 0, 1) := by decide +kernel
theorem d_L_law_850 : decode code 850 = .ok (.iload 4, 2) := by decide +kernel
theorem d_L_law_852 : decode code 852 = .ok (.iconst 3, 1) := by decide +kernel
theorem d_L_law_853 : decode code 853 = .ok (.iadd, 1) := by decide +kernel
theorem d_L_law_854 : decode code 854 = .ok (.iaload, 1) := by decide +kernel
theorem d_L_law_855 : decode code 855 = .ok (.invokevirtual 152, 3) := by decide +kernel
theorem d_L_law_858 : decode code 858 = .ok (.istore 6, 2) := by decide +kernel
theorem d_L_law_860 : decode code 860 = .ok (.aload_n 2, 1) := by decide +kernel
theorem d_L_law_861 : decode code 861 = .ok (.invokevirtual 115, 3) := by decide +kernel
theorem d_L_law_864 : decode code 864 = .ok (.iload 5, 2) := by decide +kernel
theorem d_L_law_866 : decode code 866 = .ok (.if_icmp .eq 5, 3) := by decide +kernel
theorem d_L_law_869 : decode code 869 = .ok (.iconst 0, 1) := by decide +kernel
theorem d_L_law_870 : decode code 870 = .ok (.ireturn, 1) := by decide +kernel
theorem d_L_law_871 : decode code 871 = .ok (.iload 5, 2) := by decide +kernel
theorem d_L_law_873 : decode code 873 = .ok (.ifCond .ne 15, 3) := by decide +kernel
theorem d_L_law_876 : decode code 876 = .ok (.aload_n 3, 1) := by decide +kernel
theorem d_L_law_877 : decode code 877 = .ok (.iconst 0, 1) := by decide +kernel
theorem d_L_law_878 : decode code 878 = .ok (.laload, 1) := by decide +kernel
theorem d_L_law_879 : decode code 879 = .ok (.iload 6, 2) := by decide +kernel
theorem d_L_law_881 : decode code 881 = .ok (.i2l, 1) := by decide +kernel
theorem d_L_law_882 : decode code 882 = .ok (.lcmp, 1) := by decide +kernel
theorem d_L_law_883 : decode code 883 = .ok (.ifCond .eq 5, 3) := by decide +kernel
theorem d_L_law_886 : decode code 886 = .ok (.iconst 0, 1) := by decide +kernel
theorem d_L_law_887 : decode code 887 = .ok (.ireturn, 1) := by decide +kernel
theorem d_L_law_888 : decode code 888 = .ok (.goto 913, 3) := by decide +kernel
theorem d_L_law_891 : decode code 891 = .ok (.aload_n 1, 1) := by decide +kernel
theorem d_L_law_892 : decode code 892 = .ok (.aload_n 0, 1) := by decide +kernel
theorem d_L_law_893 : decode code 893 = .ok (.iload 4, 2) := by decide +kernel
theorem d_L_law_895 : decode code 895 = .ok (.iconst 1, 1) := by decide +kernel
theorem d_L_law_896 : decode code 896 = .ok (.iadd, 1) := by decide +kernel
theorem d_L_law_897 : decode code 897 = .ok (.iaload, 1) := by decide +kernel
theorem d_L_law_898 : decode code 898 = .ok (.aload_n 0, 1) := by decide +kernel
theorem d_L_law_899 : decode code 899 = .ok (.iload 4, 2) := by decide +kernel
theorem d_L_law_901 : decode code 901 = .ok (.iconst 2, 1) := by decide +kernel
theorem d_L_law_902 : decode code 902 = .ok (.iadd, 1) := by decide +kernel
theorem d_L_law_903 : decode code 903 = .ok (.iaload, 1) := by decide +kernel
theorem d_L_law_904 : decode code 904 = .ok (.aload_n 3, 1) := by decide +kernel
theorem d_L_law_905 : decode code 905 = .ok (.invokestatic 153, 3) := by decide +kernel
theorem d_L_law_908 : decode code 908 = .ok (.istore 5, 2) := by decide +kernel
theorem d_L_law_910 : decode code 910 = .ok (.aload_n 2, 1) := by decide +kernel
theorem d_L_law_911 : decode code 911 = .ok (.aload_n 0, 1) := by decide +kernel
theorem d_L_law_912 : decode code 912 = .ok (.iload 4, 2) := by decide +kernel
theorem d_L_law_914 : decode code 914 = .ok (.iconst 1, 1) := by decide +kernel
theorem d_L_law_915 : decode code 915 = .ok (.iadd, 1) := by decide +kernel
theorem d_L_law_916 : decode code 916 = .ok (.iaload, 1) := by decide +kernel
theorem d_L_law_917 : decode code 917 = .ok (.aload_n 0, 1) := by decide +kernel
theorem d_L_law_918 : decode code 918 = .ok (.iload 4, 2) := by decide +kernel
theorem d_L_law_920 : decode code 920 = .ok (.iconst 2, 1) := by decide +kernel
theorem d_L_law_921 : decode code 921 = .ok (.iadd, 1) := by decide +kernel
theorem d_L_law_922 : decode code 922 = .ok (.iaload, 1) := by decide +kernel
theorem d_L_law_923 : decode code 923 = .ok (.invokevirtual 155, 3) := by decide +kernel
theorem d_L_law_926 : decode code 926 = .ok (.istore 6, 2) := by decide +kernel
theorem d_L_law_928 : decode code 928 = .ok (.aload_n 2, 1) := by decide +kernel
theorem d_L_law_929 : decode code 929 = .ok (.invokevirtual 115, 3) := by decide +kernel
theorem d_L_law_932 : decode code 932 = .ok (.iload 5, 2) := by decide +kernel
theorem d_L_law_934 : decode code 934 = .ok (.if_icmp .eq 5, 3) := by decide +kernel
theorem d_L_law_937 : decode code 937 = .ok (.iconst 0, 1) := by decide +kernel
theorem d_L_law_938 : decode code 938 = .ok (.ireturn, 1) := by decide +kernel
theorem d_L_law_939 : decode code 939 = .ok (.iload 5, 2) := by decide +kernel
theorem d_L_law_941 : decode code 941 = .ok (.ifCond .ne 22, 3) := by decide +kernel
theorem d_L_law_944 : decode code 944 = .ok (.aload_n 3, 1) := by decide +kernel
theorem d_L_law_945 : decode code 945 = .ok (.iconst 0, 1) := by decide +kernel
theorem d_L_law_946 : decode code 946 = .ok (.laload, 1) := by decide +kernel
theorem d_L_law_947 : decode code 947 = .ok (.iload 6, 2) := by decide +kernel
theorem d_L_law_949 : decode code 949 = .ok (.ifCond .eq 7, 3) := by decide +kernel
theorem d_L_law_952 : decode code 952 = .ok (.lconst 1, 1) := by decide +kernel
theorem d_L_law_953 : decode code 953 = .ok (.goto 4, 3) := by decide +kernel
theorem d_L_law_956 : decode code 956 = .ok (.lconst 0, 1) := by decide +kernel
theorem d_L_law_957 : decode code 957 = .ok (.lcmp, 1) := by decide +kernel
theorem d_L_law_958 : decode code 958 = .ok (.ifCond .eq 5, 3) := by decide +kernel
theorem d_L_law_961 : decode code 961 = .ok (.iconst 0, 1) := by decide +kernel
theorem d_L_law_962 : decode code 962 = .ok (.ireturn, 1) := by decide +kernel
theorem d_L_law_963 : decode code 963 = .ok (.goto 838, 3) := by decide +kernel
theorem d_L_law_966 : decode code 966 = .ok (.aload_n 1, 1) := by decide +kernel
theorem d_L_law_967 : decode code 967 = .ok (.aload_n 0, 1) := by decide +kernel
theorem d_L_law_968 : decode code 968 = .ok (.iload 4, 2) := by decide +kernel
theorem d_L_law_970 : decode code 970 = .ok (.iconst 1, 1) := by decide +kernel
theorem d_L_law_971 : decode code 971 = .ok (.iadd, 1) := by decide +kernel
theorem d_L_law_972 : decode code 972 = .ok (.iaload, 1) := by decide +kernel
theorem d_L_law_973 : decode code 973 = .ok (.aload_n 0, 1) := by decide +kernel
theorem d_L_law_974 : decode code 974 = .ok (.iload 4, 2) := by decide +kernel
theorem d_L_law_976 : decode code 976 = .ok (.iconst 2, 1) := by decide +kernel
theorem d_L_law_977 : decode code 977 = .ok (.iadd, 1) := by decide +kernel
theorem d_L_law_978 : decode code 978 = .ok (.iaload, 1) := by decide +kernel
theorem d_L_law_979 : decode code 979 = .ok (.aload_n 3, 1) := by decide +kernel
theorem d_L_law_980 : decode code 980 = .ok (.invokestatic 156, 3) := by decide +kernel
theorem d_L_law_983 : decode code 983 = .ok (.istore 5, 2) := by decide +kernel
theorem d_L_law_985 : decode code 985 = .ok (.aload_n 2, 1) := by decide +kernel
theorem d_L_law_986 : decode code 986 = .ok (.aload_n 0, 1) := by decide +kernel
theorem d_L_law_987 : decode code 987 = .ok (.iload 4, 2) := by decide +kernel
theorem d_L_law_989 : decode code 989 = .ok (.iconst 1, 1) := by decide +kernel
theorem d_L_law_990 : decode code 990 = .ok (.iadd, 1) := by decide +kernel
theorem d_L_law_991 : decode code 991 = .ok (.iaload, 1) := by decide +kernel
theorem d_L_law_992 : decode code 992 = .ok (.aload_n 0, 1) := by decide +kernel
theorem d_L_law_993 : decode code 993 = .ok (.iload 4, 2) := by decide +kernel
theorem d_L_law_995 : decode code 995 = .ok (.iconst 2, 1) := by decide +kernel
theorem d_L_law_996 : decode code 996 = .ok (.iadd, 1) := by decide +kernel
theorem d_L_law_997 : decode code 997 = .ok (.iaload, 1) := by decide +kernel
theorem d_L_law_998 : decode code 998 = .ok (.invokevirtual 158, 3) := by decide +kernel
theorem d_L_law_1001 : decode code 1001 = .ok (.istore 6, 2) := by decide +kernel
theorem d_L_law_1003 : decode code 1003 = .ok (.aload_n 2, 1) := by decide +kernel
theorem d_L_law_1004 : decode code 1004 = .ok (.invokevirtual 115, 3) := by decide +kernel
theorem d_L_law_1007 : decode code 1007 = .ok (.iload 5, 2) := by decide +kernel
theorem d_L_law_1009 : decode code 1009 = .ok (.if_icmp .eq 5, 3) := by decide +kernel
theorem d_L_law_1012 : decode code 1012 = .ok (.iconst 0, 1) := by decide +kernel
theorem d_L_law_1013 : decode code 1013 = .ok (.ireturn, 1) := by decide +kernel
theorem d_L_law_1014 : decode code 1014 = .ok (.iload 5, 2) := by decide +kernel
theorem d_L_law_1016 : decode code 1016 = .ok (.ifCond .ne 15, 3) := by decide +kernel
theorem d_L_law_1019 : decode code 1019 = .ok (.aload_n 3, 1) := by decide +kernel
theorem d_L_law_1020 : decode code 1020 = .ok (.iconst 0, 1) := by decide +kernel
theorem d_L_law_1021 : decode code 1021 = .ok (.laload, 1) := by decide +kernel
theorem d_L_law_1022 : decode code 1022 = .ok (.iload 6, 2) := by decide +kernel
theorem d_L_law_1024 : decode code 1024 = .ok (.i2l, 1) := by decide +kernel
theorem d_L_law_1025 : decode code 1025 = .ok (.lcmp, 1) := by decide +kernel
theorem d_L_law_1026 : decode code 1026 = .ok (.ifCond .eq 5, 3) := by decide +kernel
theorem d_L_law_1029 : decode code 1029 = .ok (.iconst 0, 1) := by decide +kernel
theorem d_L_law_1030 : decode code 1030 = .ok (.ireturn, 1) := by decide +kernel
theorem d_L_law_1031 : decode code 1031 = .ok (.goto 770, 3) := by decide +kernel
theorem d_L_law_1034 : decode code 1034 = .ok (.aload_n 1, 1) := by decide +kernel
theorem d_L_law_1035 : decode code 1035 = .ok (.aload_n 0, 1) := by decide +kernel
theorem d_L_law_1036 : decode code 1036 = .ok (.iload 4, 2) := by decide +kernel
theorem d_L_law_1038 : decode code 1038 = .ok (.iconst 1, 1) := by decide +kernel
theorem d_L_law_1039 : decode code 1039 = .ok (.iadd, 1) := by decide +kernel
theorem d_L_law_1040 : decode code 1040 = .ok (.iaload, 1) := by decide +kernel
theorem d_L_law_1041 : decode code 1041 = .ok (.aload_n 0, 1) := by decide +kernel
theorem d_L_law_1042 : decode code 1042 = .ok (.iload 4, 2) := by decide +kernel
theorem d_L_law_1044 : decode code 1044 = .ok (.iconst 2, 1) := by decide +kernel
theorem d_L_law_1045 : decode code 1045 = .ok (.iadd, 1) := by decide +kernel
theorem d_L_law_1046 : decode code 1046 = .ok (.iaload, 1) := by decide +kernel
theorem d_L_law_1047 : decode code 1047 = .ok (.aload_n 3, 1) := by decide +kernel
theorem d_L_law_1048 : decode code 1048 = .ok (.invokestatic 159, 3) := by decide +kernel
theorem d_L_law_1051 : decode code 1051 = .ok (.istore 5, 2) := by decide +kernel
theorem d_L_law_1053 : decode code 1053 = .ok (.aload_n 2, 1) := by decide +kernel
theorem d_L_law_1054 : decode code 1054 = .ok (.aload_n 0, 1) := by decide +kernel
theorem d_L_law_1055 : decode code 1055 = .ok (.iload 4, 2) := by decide +kernel
theorem d_L_law_1057 : decode code 1057 = .ok (.iconst 1, 1) := by decide +kernel
theorem d_L_law_1058 : decode code 1058 = .ok (.iadd, 1) := by decide +kernel
theorem d_L_law_1059 : decode code 1059 = .ok (.iaload, 1) := by decide +kernel
theorem d_L_law_1060 : decode code 1060 = .ok (.aload_n 0, 1) := by decide +kernel
theorem d_L_law_1061 : decode code 1061 = .ok (.iload 4, 2) := by decide +kernel
theorem d_L_law_1063 : decode code 1063 = .ok (.iconst 2, 1) := by decide +kernel
theorem d_L_law_1064 : decode code 1064 = .ok (.iadd, 1) := by decide +kernel
theorem d_L_law_1065 : decode code 1065 = .ok (.iaload, 1) := by decide +kernel
theorem d_L_law_1066 : decode code 1066 = .ok (.invokevirtual 161, 3) := by decide +kernel
theorem d_L_law_1069 : decode code 1069 = .ok (.istore 6, 2) := by decide +kernel
theorem d_L_law_1071 : decode code 1071 = .ok (.aload_n 2, 1) := by decide +kernel
theorem d_L_law_1072 : decode code 1072 = .ok (.invokevirtual 115, 3) := by decide +kernel
theorem d_L_law_1075 : decode code 1075 = .ok (.iload 5, 2) := by decide +kernel
theorem d_L_law_1077 : decode code 1077 = .ok (.if_icmp .eq 5, 3) := by decide +kernel
theorem d_L_law_1080 : decode code 1080 = .ok (.iconst 0, 1) := by decide +kernel
theorem d_L_law_1081 : decode code 1081 = .ok (.ireturn, 1) := by decide +kernel
theorem d_L_law_1082 : decode code 1082 = .ok (.iload 5, 2) := by decide +kernel
theorem d_L_law_1084 : decode code 1084 = .ok (.ifCond .ne 15, 3) := by decide +kernel
theorem d_L_law_1087 : decode code 1087 = .ok (.aload_n 3, 1) := by decide +kernel
theorem d_L_law_1088 : decode code 1088 = .ok (.iconst 0, 1) := by decide +kernel
theorem d_L_law_1089 : decode code 1089 = .ok (.laload, 1) := by decide +kernel
theorem d_L_law_1090 : decode code 1090 = .ok (.iload 6, 2) := by decide +kernel
theorem d_L_law_1092 : decode code 1092 = .ok (.i2l, 1) := by decide +kernel
theorem d_L_law_1093 : decode code 1093 = .ok (.lcmp, 1) := by decide +kernel
theorem d_L_law_1094 : decode code 1094 = .ok (.ifCond .eq 5, 3) := by decide +kernel
theorem d_L_law_1097 : decode code 1097 = .ok (.iconst 0, 1) := by decide +kernel
theorem d_L_law_1098 : decode code 1098 = .ok (.ireturn, 1) := by decide +kernel
theorem d_L_law_1099 : decode code 1099 = .ok (.goto 702, 3) := by decide +kernel
theorem d_L_law_1102 : decode code 1102 = .ok (.aload_n 1, 1) := by decide +kernel
theorem d_L_law_1103 : decode code 1103 = .ok (.aload_n 0, 1) := by decide +kernel
theorem d_L_law_1104 : decode code 1104 = .ok (.iload 4, 2) := by decide +kernel
theorem d_L_law_1106 : decode code 1106 = .ok (.iconst 1, 1) := by decide +kernel
theorem d_L_law_1107 : decode code 1107 = .ok (.iadd, 1) := by decide +kernel
theorem d_L_law_1108 : decode code 1108 = .ok (.iaload, 1) := by decide +kernel
theorem d_L_law_1109 : decode code 1109 = .ok (.aload_n 0, 1) := by decide +kernel
theorem d_L_law_1110 : decode code 1110 = .ok (.iload 4, 2) := by decide +kernel
theorem d_L_law_1112 : decode code 1112 = .ok (.iconst 2, 1) := by decide +kernel
theorem d_L_law_1113 : decode code 1113 = .ok (.iadd, 1) := by decide +kernel
theorem d_L_law_1114 : decode code 1114 = .ok (.iaload, 1) := by decide +kernel
theorem d_L_law_1115 : decode code 1115 = .ok (.aload_n 0, 1) := by decide +kernel
theorem d_L_law_1116 : decode code 1116 = .ok (.iload 4, 2) := by decide +kernel
theorem d_L_law_1118 : decode code 1118 = .ok (.iconst 3, 1) := by decide +kernel
theorem d_L_law_1119 : decode code 1119 = .ok (.iadd, 1) := by decide +kernel
theorem d_L_law_1120 : decode code 1120 = .ok (.iaload, 1) := by decide +kernel
theorem d_L_law_1121 : decode code 1121 = .ok (.aload_n 3, 1) := by decide +kernel
theorem d_L_law_1122 : decode code 1122 = .ok (.invokestatic 162, 3) := by decide +kernel
theorem d_L_law_1125 : decode code 1125 = .ok (.istore 5, 2) := by decide +kernel
theorem d_L_law_1127 : decode code 1127 = .ok (.aload_n 2, 1) := by decide +kernel
theorem d_L_law_1128 : decode code 1128 = .ok (.aload_n 0, 1) := by decide +kernel
theorem d_L_law_1129 : decode code 1129 = .ok (.iload 4, 2) := by decide +kernel
theorem d_L_law_1131 : decode code 1131 = .ok (.iconst 1, 1) := by decide +kernel
theorem d_L_law_1132 : decode code 1132 = .ok (.iadd, 1) := by decide +kernel
theorem d_L_law_1133 : decode code 1133 = .ok (.iaload, 1) := by decide +kernel
theorem d_L_law_1134 : decode code 1134 = .ok (.aload_n 0, 1) := by decide +kernel
theorem d_L_law_1135 : decode code 1135 = .ok (.iload 4, 2) := by decide +kernel
theorem d_L_law_1137 : decode code 1137 = .ok (.iconst 2, 1) := by decide +kernel
theorem d_L_law_1138 : decode code 1138 = .ok (.iadd, 1) := by decide +kernel
theorem d_L_law_1139 : decode code 1139 = .ok (.iaload, 1) := by decide +kernel
theorem d_L_law_1140 : decode code 1140 = .ok (.aload_n 0, 1) := by decide +kernel
theorem d_L_law_1141 : decode code 1141 = .ok (.iload 4, 2) := by decide +kernel
theorem d_L_law_1143 : decode code 1143 = .ok (.iconst 3, 1) := by decide +kernel
theorem d_L_law_1144 : decode code 1144 = .ok (.iadd, 1) := by decide +kernel
theorem d_L_law_1145 : decode code 1145 = .ok (.iaload, 1) := by decide +kernel
theorem d_L_law_1146 : decode code 1146 = .ok (.invokevirtual 164, 3) := by decide +kernel
theorem d_L_law_1149 : decode code 1149 = .ok (.istore 6, 2) := by decide +kernel
theorem d_L_law_1151 : decode code 1151 = .ok (.aload_n 2, 1) := by decide +kernel
theorem d_L_law_1152 : decode code 1152 = .ok (.invokevirtual 115, 3) := by decide +kernel
theorem d_L_law_1155 : decode code 1155 = .ok (.iload 5, 2) := by decide +kernel
theorem d_L_law_1157 : decode code 1157 = .ok (.if_icmp .eq 5, 3) := by decide +kernel
theorem d_L_law_1160 : decode code 1160 = .ok (.iconst 0, 1) := by decide +kernel
theorem d_L_law_1161 : decode code 1161 = .ok (.ireturn, 1) := by decide +kernel
theorem d_L_law_1162 : decode code 1162 = .ok (.iload 5, 2) := by decide +kernel
theorem d_L_law_1164 : decode code 1164 = .ok (.ifCond .ne 15, 3) := by decide +kernel
theorem d_L_law_1167 : decode code 1167 = .ok (.aload_n 3, 1) := by decide +kernel
theorem d_L_law_1168 : decode code 1168 = .ok (.iconst 0, 1) := by decide +kernel
theorem d_L_law_1169 : decode code 1169 = .ok (.laload, 1) := by decide +kernel
theorem d_L_law_1170 : decode code 1170 = .ok (.iload 6, 2) := by decide +kernel
theorem d_L_law_1172 : decode code 1172 = .ok (.i2l, 1) := by decide +kernel
theorem d_L_law_1173 : decode code 1173 = .ok (.lcmp, 1) := by decide +kernel
theorem d_L_law_1174 : decode code 1174 = .ok (.ifCond .eq 5, 3) := by decide +kernel
theorem d_L_law_1177 : decode code 1177 = .ok (.iconst 0, 1) := by decide +kernel
theorem d_L_law_1178 : decode code 1178 = .ok (.ireturn, 1) := by decide +kernel
theorem d_L_law_1179 : decode code 1179 = .ok (.goto 622, 3) := by decide +kernel
theorem d_L_law_1182 : decode code 1182 = .ok (.aload_n 1, 1) := by decide +kernel
theorem d_L_law_1183 : decode code 1183 = .ok (.aload_n 0, 1) := by decide +kernel
theorem d_L_law_1184 : decode code 1184 = .ok (.iload 4, 2) := by decide +kernel
theorem d_L_law_1186 : decode code 1186 = .ok (.iconst 1, 1) := by decide +kernel
theorem d_L_law_1187 : decode code 1187 = .ok (.iadd, 1) := by decide +kernel
theorem d_L_law_1188 : decode code 1188 = .ok (.iaload, 1) := by decide +kernel
theorem d_L_law_1189 : decode code 1189 = .ok (.aload_n 3, 1) := by decide +kernel
theorem d_L_law_1190 : decode code 1190 = .ok (.invokestatic 165, 3) := by decide +kernel
theorem d_L_law_1193 : decode code 1193 = .ok (.istore 5, 2) := by decide +kernel
theorem d_L_law_1195 : decode code 1195 = .ok (.aload_n 2, 1) := by decide +kernel
theorem d_L_law_1196 : decode code 1196 = .ok (.aload_n 0, 1) := by decide +kernel
theorem d_L_law_1197 : decode code 1197 = .ok (.iload 4, 2) := by decide +kernel
theorem d_L_law_1199 : decode code 1199 = .ok (.iconst 1, 1) := by decide +kernel
theorem d_L_law_1200 : decode code 1200 = .ok (.iadd, 1) := by decide +kernel
theorem d_L_law_1201 : decode code 1201 = .ok (.iaload, 1) := by decide +kernel
theorem d_L_law_1202 : decode code 1202 = .ok (.invokevirtual 167, 3) := by decide +kernel
theorem d_L_law_1205 : decode code 1205 = .ok (.istore 6, 2) := by decide +kernel
theorem d_L_law_1207 : decode code 1207 = .ok (.aload_n 2, 1) := by decide +kernel
theorem d_L_law_1208 : decode code 1208 = .ok (.invokevirtual 115, 3) := by decide +kernel
theorem d_L_law_1211 : decode code 1211 = .ok (.iload 5, 2) := by decide +kernel
theorem d_L_law_1213 : decode code 1213 = .ok (.if_icmp .eq 5, 3) := by decide +kernel
theorem d_L_law_1216 : decode code 1216 = .ok (.iconst 0, 1) := by decide +kernel
theorem d_L_law_1217 : decode code 1217 = .ok (.ireturn, 1) := by decide +kernel
theorem d_L_law_1218 : decode code 1218 = .ok (.iload 5, 2) := by decide +kernel
theorem d_L_law_1220 : decode code 1220 = .ok (.ifCond .ne 15, 3) := by decide +kernel
theorem d_L_law_1223 : decode code 1223 = .ok (.aload_n 3, 1) := by decide +kernel
theorem d_L_law_1224 : decode code 1224 = .ok (.iconst 0, 1) := by decide +kernel
theorem d_L_law_1225 : decode code 1225 = .ok (.laload, 1) := by decide +kernel
theorem d_L_law_1226 : decode code 1226 = .ok (.iload 6, 2) := by decide +kernel
theorem d_L_law_1228 : decode code 1228 = .ok (.i2l, 1) := by decide +kernel
theorem d_L_law_1229 : decode code 1229 = .ok (.lcmp, 1) := by decide +kernel
theorem d_L_law_1230 : decode code 1230 = .ok (.ifCond .eq 5, 3) := by decide +kernel
theorem d_L_law_1233 : decode code 1233 = .ok (.iconst 0, 1) := by decide +kernel
theorem d_L_law_1234 : decode code 1234 = .ok (.ireturn, 1) := by decide +kernel
theorem d_L_law_1235 : decode code 1235 = .ok (.goto 566, 3) := by decide +kernel
theorem d_L_law_1238 : decode code 1238 = .ok (.aload_n 1, 1) := by decide +kernel
theorem d_L_law_1239 : decode code 1239 = .ok (.aload_n 0, 1) := by decide +kernel
theorem d_L_law_1240 : decode code 1240 = .ok (.iload 4, 2) := by decide +kernel
theorem d_L_law_1242 : decode code 1242 = .ok (.iconst 1, 1) := by decide +kernel
theorem d_L_law_1243 : decode code 1243 = .ok (.iadd, 1) := by decide +kernel
theorem d_L_law_1244 : decode code 1244 = .ok (.iaload, 1) := by decide +kernel
theorem d_L_law_1245 : decode code 1245 = .ok (.aload_n 0, 1) := by decide +kernel
theorem d_L_law_1246 : decode code 1246 = .ok (.iload 4, 2) := by decide +kernel
theorem d_L_law_1248 : decode code 1248 = .ok (.iconst 2, 1) := by decide +kernel
theorem d_L_law_1249 : decode code 1249 = .ok (.iadd, 1) := by decide +kernel
theorem d_L_law_1250 : decode code 1250 = .ok (.iaload, 1) := by decide +kernel
theorem d_L_law_1251 : decode code 1251 = .ok (.aload_n 3, 1) := by decide +kernel
theorem d_L_law_1252 : decode code 1252 = .ok (.invokestatic 168, 3) := by decide +kernel
theorem d_L_law_1255 : decode code 1255 = .ok (.istore 5, 2) := by decide +kernel
theorem d_L_law_1257 : decode code 1257 = .ok (.aload_n 2, 1) := by decide +kernel
theorem d_L_law_1258 : decode code 1258 = .ok (.aload_n 0, 1) := by decide +kernel
theorem d_L_law_1259 : decode code 1259 = .ok (.iload 4, 2) := by decide +kernel
theorem d_L_law_1261 : decode code 1261 = .ok (.iconst 1, 1) := by decide +kernel
theorem d_L_law_1262 : decode code 1262 = .ok (.iadd, 1) := by decide +kernel
theorem d_L_law_1263 : decode code 1263 = .ok (.iaload, 1) := by decide +kernel
theorem d_L_law_1264 : decode code 1264 = .ok (.aload_n 0, 1) := by decide +kernel
theorem d_L_law_1265 : decode code 1265 = .ok (.iload 4, 2) := by decide +kernel
theorem d_L_law_1267 : decode code 1267 = .ok (.iconst 2, 1) := by decide +kernel
theorem d_L_law_1268 : decode code 1268 = .ok (.iadd, 1) := by decide +kernel
theorem d_L_law_1269 : decode code 1269 = .ok (.iaload, 1) := by decide +kernel
theorem d_L_law_1270 : decode code 1270 = .ok (.invokevirtual 170, 3) := by decide +kernel
theorem d_L_law_1273 : decode code 1273 = .ok (.istore 6, 2) := by decide +kernel
theorem d_L_law_1275 : decode code 1275 = .ok (.aload_n 2, 1) := by decide +kernel
theorem d_L_law_1276 : decode code 1276 = .ok (.invokevirtual 115, 3) := by decide +kernel
theorem d_L_law_1279 : decode code 1279 = .ok (.iload 5, 2) := by decide +kernel
theorem d_L_law_1281 : decode code 1281 = .ok (.if_icmp .eq 5, 3) := by decide +kernel
theorem d_L_law_1284 : decode code 1284 = .ok (.iconst 0, 1) := by decide +kernel
theorem d_L_law_1285 : decode code 1285 = .ok (.ireturn, 1) := by decide +kernel
theorem d_L_law_1286 : decode code 1286 = .ok (.iload 5, 2) := by decide +kernel
theorem d_L_law_1288 : decode code 1288 = .ok (.ifCond .ne 15, 3) := by decide +kernel
theorem d_L_law_1291 : decode code 1291 = .ok (.aload_n 3, 1) := by decide +kernel
theorem d_L_law_1292 : decode code 1292 = .ok (.iconst 0, 1) := by decide +kernel
theorem d_L_law_1293 : decode code 1293 = .ok (.laload, 1) := by decide +kernel
theorem d_L_law_1294 : decode code 1294 = .ok (.iload 6, 2) := by decide +kernel
theorem d_L_law_1296 : decode code 1296 = .ok (.i2l, 1) := by decide +kernel
theorem d_L_law_1297 : decode code 1297 = .ok (.lcmp, 1) := by decide +kernel
theorem d_L_law_1298 : decode code 1298 = .ok (.ifCond .eq 5, 3) := by decide +kernel
theorem d_L_law_1301 : decode code 1301 = .ok (.iconst 0, 1) := by decide +kernel
theorem d_L_law_1302 : decode code 1302 = .ok (.ireturn, 1) := by decide +kernel
theorem d_L_law_1303 : decode code 1303 = .ok (.goto 498, 3) := by decide +kernel
theorem d_L_law_1306 : decode code 1306 = .ok (.aload_n 1, 1) := by decide +kernel
theorem d_L_law_1307 : decode code 1307 = .ok (.aload_n 0, 1) := by decide +kernel
theorem d_L_law_1308 : decode code 1308 = .ok (.iload 4, 2) := by decide +kernel
theorem d_L_law_1310 : decode code 1310 = .ok (.iconst 1, 1) := by decide +kernel
theorem d_L_law_1311 : decode code 1311 = .ok (.iadd, 1) := by decide +kernel
theorem d_L_law_1312 : decode code 1312 = .ok (.iaload, 1) := by decide +kernel
theorem d_L_law_1313 : decode code 1313 = .ok (.aload_n 0, 1) := by decide +kernel
theorem d_L_law_1314 : decode code 1314 = .ok (.iload 4, 2) := by decide +kernel
theorem d_L_law_1316 : decode code 1316 = .ok (.iconst 2, 1) := by decide +kernel
theorem d_L_law_1317 : decode code 1317 = .ok (.iadd, 1) := by decide +kernel
theorem d_L_law_1318 : decode code 1318 = .ok (.iaload, 1) := by decide +kernel
theorem d_L_law_1319 : decode code 1319 = .ok (.aload_n 0, 1) := by decide +kernel
theorem d_L_law_1320 : decode code 1320 = .ok (.iload 4, 2) := by decide +kernel
theorem d_L_law_1322 : decode code 1322 = .ok (.iconst 3, 1) := by decide +kernel
theorem d_L_law_1323 : decode code 1323 = .ok (.iadd, 1) := by decide +kernel
theorem d_L_law_1324 : decode code 1324 = .ok (.iaload, 1) := by decide +kernel
theorem d_L_law_1325 : decode code 1325 = .ok (.aload_n 3, 1) := by decide +kernel
theorem d_L_law_1326 : decode code 1326 = .ok (.invokestatic 171, 3) := by decide +kernel
theorem d_L_law_1329 : decode code 1329 = .ok (.istore 5, 2) := by decide +kernel
theorem d_L_law_1331 : decode code 1331 = .ok (.aload_n 2, 1) := by decide +kernel
theorem d_L_law_1332 : decode code 1332 = .ok (.aload_n 0, 1) := by decide +kernel
theorem d_L_law_1333 : decode code 1333 = .ok (.iload 4, 2) := by decide +kernel
theorem d_L_law_1335 : decode code 1335 = .ok (.iconst 1, 1) := by decide +kernel
theorem d_L_law_1336 : decode code 1336 = .ok (.iadd, 1) := by decide +kernel
theorem d_L_law_1337 : decode code 1337 = .ok (.iaload, 1) := by decide +kernel
theorem d_L_law_1338 : decode code 1338 = .ok (.aload_n 0, 1) := by decide +kernel
theorem d_L_law_1339 : decode code 1339 = .ok (.iload 4, 2) := by decide +kernel
theorem d_L_law_1341 : decode code 1341 = .ok (.iconst 2, 1) := by decide +kernel
theorem d_L_law_1342 : decode code 1342 = .ok (.iadd, 1) := by decide +kernel
theorem d_L_law_1343 : decode code 1343 = .ok (.iaload, 1) := by decide +kernel
theorem d_L_law_1344 : decode code 1344 = .ok (.aload_n 0, 1) := by decide +kernel
theorem d_L_law_1345 : decode code 1345 = .ok (.iload 4, 2) := by decide +kernel
theorem d_L_law_1347 : decode code 1347 = .ok (.iconst 3, 1) := by decide +kernel
theorem d_L_law_1348 : decode code 1348 = .ok (.iadd, 1) := by decide +kernel
theorem d_L_law_1349 : decode code 1349 = .ok (.iaload, 1) := by decide +kernel
theorem d_L_law_1350 : decode code 1350 = .ok (.invokevirtual 173, 3) := by decide +kernel
theorem d_L_law_1353 : decode code 1353 = .ok (.istore 6, 2) := by decide +kernel
theorem d_L_law_1355 : decode code 1355 = .ok (.aload_n 2, 1) := by decide +kernel
theorem d_L_law_1356 : decode code 1356 = .ok (.invokevirtual 115, 3) := by decide +kernel
theorem d_L_law_1359 : decode code 1359 = .ok (.iload 5, 2) := by decide +kernel
theorem d_L_law_1361 : decode code 1361 = .ok (.if_icmp .eq 5, 3) := by decide +kernel
theorem d_L_law_1364 : decode code 1364 = .ok (.iconst 0, 1) := by decide +kernel
theorem d_L_law_1365 : decode code 1365 = .ok (.ireturn, 1) := by decide +kernel
theorem d_L_law_1366 : decode code 1366 = .ok (.iload 5, 2) := by decide +kernel
theorem d_L_law_1368 : decode code 1368 = .ok (.ifCond .ne 15, 3) := by decide +kernel
theorem d_L_law_1371 : decode code 1371 = .ok (.aload_n 3, 1) := by decide +kernel
theorem d_L_law_1372 : decode code 1372 = .ok (.iconst 0, 1) := by decide +kernel
theorem d_L_law_1373 : decode code 1373 = .ok (.laload, 1) := by decide +kernel
theorem d_L_law_1374 : decode code 1374 = .ok (.iload 6, 2) := by decide +kernel
theorem d_L_law_1376 : decode code 1376 = .ok (.i2l, 1) := by decide +kernel
theorem d_L_law_1377 : decode code 1377 = .ok (.lcmp, 1) := by decide +kernel
theorem d_L_law_1378 : decode code 1378 = .ok (.ifCond .eq 5, 3) := by decide +kernel
theorem d_L_law_1381 : decode code 1381 = .ok (.iconst 0, 1) := by decide +kernel
theorem d_L_law_1382 : decode code 1382 = .ok (.ireturn, 1) := by decide +kernel
theorem d_L_law_1383 : decode code 1383 = .ok (.goto 418, 3) := by decide +kernel
theorem d_L_law_1386 : decode code 1386 = .ok (.aload_n 1, 1) := by decide +kernel
theorem d_L_law_1387 : decode code 1387 = .ok (.aload_n 0, 1) := by decide +kernel
theorem d_L_law_1388 : decode code 1388 = .ok (.iload 4, 2) := by decide +kernel
theorem d_L_law_1390 : decode code 1390 = .ok (.iconst 1, 1) := by decide +kernel
theorem d_L_law_1391 : decode code 1391 = .ok (.iadd, 1) := by decide +kernel
theorem d_L_law_1392 : decode code 1392 = .ok (.iaload, 1) := by decide +kernel
theorem d_L_law_1393 : decode code 1393 = .ok (.aload_n 0, 1) := by decide +kernel
theorem d_L_law_1394 : decode code 1394 = .ok (.iload 4, 2) := by decide +kernel
theorem d_L_law_1396 : decode code 1396 = .ok (.iconst 2, 1) := by decide +kernel
theorem d_L_law_1397 : decode code 1397 = .ok (.iadd, 1) := by decide +kernel
theorem d_L_law_1398 : decode code 1398 = .ok (.iaload, 1) := by decide +kernel
theorem d_L_law_1399 : decode code 1399 = .ok (.aload_n 3, 1) := by decide +kernel
theorem d_L_law_1400 : decode code 1400 = .ok (.invokestatic 174, 3) := by decide +kernel
theorem d_L_law_1403 : decode code 1403 = .ok (.istore 5, 2) := by decide +kernel
theorem d_L_law_1405 : decode code 1405 = .ok (.aload_n 2, 1) := by decide +kernel
theorem d_L_law_1406 : decode code 1406 = .ok (.aload_n 0, 1) := by decide +kernel
theorem d_L_law_1407 : decode code 1407 = .ok (.iload 4, 2) := by decide +kernel
theorem d_L_law_1409 : decode code 1409 = .ok (.iconst 1, 1) := by decide +kernel
theorem d_L_law_1410 : decode code 1410 = .ok (.iadd, 1) := by decide +kernel
theorem d_L_law_1411 : decode code 1411 = .ok (.iaload, 1) := by decide +kernel
theorem d_L_law_1412 : decode code 1412 = .ok (.aload_n 0, 1) := by decide +kernel
theorem d_L_law_1413 : decode code 1413 = .ok (.iload 4, 2) := by decide +kernel
theorem d_L_law_1415 : decode code 1415 = .ok (.iconst 2, 1) := by decide +kernel
theorem d_L_law_1416 : decode code 1416 = .ok (.iadd, 1) := by decide +kernel
theorem d_L_law_1417 : decode code 1417 = .ok (.iaload, 1) := by decide +kernel
theorem d_L_law_1418 : decode code 1418 = .ok (.invokevirtual 176, 3) := by decide +kernel
theorem d_L_law_1421 : decode code 1421 = .ok (.istore 6, 2) := by decide +kernel
theorem d_L_law_1423 : decode code 1423 = .ok (.aload_n 2, 1) := by decide +kernel
theorem d_L_law_1424 : decode code 1424 = .ok (.invokevirtual 115, 3) := by decide +kernel
theorem d_L_law_1427 : decode code 1427 = .ok (.iload 5, 2) := by decide +kernel
theorem d_L_law_1429 : decode code 1429 = .ok (.if_icmp .eq 5, 3) := by decide +kernel
theorem d_L_law_1432 : decode code 1432 = .ok (.iconst 0, 1) := by decide +kernel
theorem d_L_law_1433 : decode code 1433 = .ok (.ireturn, 1) := by decide +kernel
theorem d_L_law_1434 : decode code 1434 = .ok (.iload 5, 2) := by decide +kernel
theorem d_L_law_1436 : decode code 1436 = .ok (.ifCond .ne 22, 3) := by decide +kernel
theorem d_L_law_1439 : decode code 1439 = .ok (.aload_n 3, 1) := by decide +kernel
theorem d_L_law_1440 : decode code 1440 = .ok (.iconst 0, 1) := by decide +kernel
theorem d_L_law_1441 : decode code 1441 = .ok (.laload, 1) := by decide +kernel
theorem d_L_law_1442 : decode code 1442 = .ok (.iload 6, 2) := by decide +kernel
theorem d_L_law_1444 : decode code 1444 = .ok (.ifCond .eq 7, 3) := by decide +kernel
theorem d_L_law_1447 : decode code 1447 = .ok (.lconst 1, 1) := by decide +kernel
theorem d_L_law_1448 : decode code 1448 = .ok (.goto 4, 3) := by decide +kernel
theorem d_L_law_1451 : decode code 1451 = .ok (.lconst 0, 1) := by decide +kernel
theorem d_L_law_1452 : decode code 1452 = .ok (.lcmp, 1) := by decide +kernel
theorem d_L_law_1453 : decode code 1453 = .ok (.ifCond .eq 5, 3) := by decide +kernel
theorem d_L_law_1456 : decode code 1456 = .ok (.iconst 0, 1) := by decide +kernel
theorem d_L_law_1457 : decode code 1457 = .ok (.ireturn, 1) := by decide +kernel
theorem d_L_law_1458 : decode code 1458 = .ok (.goto 343, 3) := by decide +kernel
theorem d_L_law_1461 : decode code 1461 = .ok (.aload_n 1, 1) := by decide +kernel
theorem d_L_law_1462 : decode code 1462 = .ok (.aload_n 0, 1) := by decide +kernel
theorem d_L_law_1463 : decode code 1463 = .ok (.iload 4, 2) := by decide +kernel
theorem d_L_law_1465 : decode code 1465 = .ok (.iconst 1, 1) := by decide +kernel
theorem d_L_law_1466 : decode code 1466 = .ok (.iadd, 1) := by decide +kernel
theorem d_L_law_1467 : decode code 1467 = .ok (.iaload, 1) := by decide +kernel
theorem d_L_law_1468 : decode code 1468 = .ok (.aload_n 0, 1) := by decide +kernel
theorem d_L_law_1469 : decode code 1469 = .ok (.iload 4, 2) := by decide +kernel
theorem d_L_law_1471 : decode code 1471 = .ok (.iconst 2, 1) := by decide +kernel
theorem d_L_law_1472 : decode code 1472 = .ok (.iadd, 1) := by decide +kernel
theorem d_L_law_1473 : decode code 1473 = .ok (.iaload, 1) := by decide +kernel
theorem d_L_law_1474 : decode code 1474 = .ok (.invokestatic 177, 3) := by decide +kernel
theorem d_L_law_1477 : decode code 1477 = .ok (.istore 5, 2) := by decide +kernel
theorem d_L_law_1479 : decode code 1479 = .ok (.aload_n 2, 1) := by decide +kernel
theorem d_L_law_1480 : decode code 1480 = .ok (.aload_n 0, 1) := by decide +kernel
theorem d_L_law_1481 : decode code 1481 = .ok (.iload 4, 2) := by decide +kernel
theorem d_L_law_1483 : decode code 1483 = .ok (.iconst 1, 1) := by decide +kernel
theorem d_L_law_1484 : decode code 1484 = .ok (.iadd, 1) := by decide +kernel
theorem d_L_law_1485 : decode code 1485 = .ok (.iaload, 1) := by decide +kernel
theorem d_L_law_1486 : decode code 1486 = .ok (.aload_n 0, 1) := by decide +kernel
theorem d_L_law_1487 : decode code 1487 = .ok (.iload 4, 2) := by decide +kernel
theorem d_L_law_1489 : decode code 1489 = .ok (.iconst 2, 1) := by decide +kernel
theorem d_L_law_1490 : decode code 1490 = .ok (.iadd, 1) := by decide +kernel
theorem d_L_law_1491 : decode code 1491 = .ok (.iaload, 1) := by decide +kernel
theorem d_L_law_1492 : decode code 1492 = .ok (.invokevirtual 179, 3) := by decide +kernel
theorem d_L_law_1495 : decode code 1495 = .ok (.aload_n 2, 1) := by decide +kernel
theorem d_L_law_1496 : decode code 1496 = .ok (.invokevirtual 115, 3) := by decide +kernel
theorem d_L_law_1499 : decode code 1499 = .ok (.iload 5, 2) := by decide +kernel
theorem d_L_law_1501 : decode code 1501 = .ok (.if_icmp .eq 5, 3) := by decide +kernel
theorem d_L_law_1504 : decode code 1504 = .ok (.iconst 0, 1) := by decide +kernel
theorem d_L_law_1505 : decode code 1505 = .ok (.ireturn, 1) := by decide +kernel
theorem d_L_law_1506 : decode code 1506 = .ok (.goto 295, 3) := by decide +kernel
theorem d_L_law_1509 : decode code 1509 = .ok (.aload_n 1, 1) := by decide +kernel
theorem d_L_law_1510 : decode code 1510 = .ok (.aload_n 0, 1) := by decide +kernel
theorem d_L_law_1511 : decode code 1511 = .ok (.iload 4, 2) := by decide +kernel
theorem d_L_law_1513 : decode code 1513 = .ok (.iconst 1, 1) := by decide +kernel
theorem d_L_law_1514 : decode code 1514 = .ok (.iadd, 1) := by decide +kernel
theorem d_L_law_1515 : decode code 1515 = .ok (.iaload, 1) := by decide +kernel
theorem d_L_law_1516 : decode code 1516 = .ok (.aload_n 0, 1) := by decide +kernel
theorem d_L_law_1517 : decode code 1517 = .ok (.iload 4, 2) := by decide +kernel
theorem d_L_law_1519 : decode code 1519 = .ok (.iconst 2, 1) := by decide +kernel
theorem d_L_law_1520 : decode code 1520 = .ok (.iadd, 1) := by decide +kernel
theorem d_L_law_1521 : decode code 1521 = .ok (.iaload, 1) := by decide +kernel
theorem d_L_law_1522 : decode code 1522 = .ok (.ifCond .eq 7, 3) := by decide +kernel
theorem d_L_law_1525 : decode code 1525 = .ok (.iconst 1, 1) := by decide +kernel
theorem d_L_law_1526 : decode code 1526 = .ok (.goto 4, 3) := by decide +kernel
theorem d_L_law_1529 : decode code 1529 = .ok (.iconst 0, 1) := by decide +kernel
theorem d_L_law_1530 : decode code 1530 = .ok (.aload_n 3, 1) := by decide +kernel
theorem d_L_law_1531 : decode code 1531 = .ok (.invokestatic 180, 3) := by decide +kernel
theorem d_L_law_1534 : decode code 1534 = .ok (.istore 5, 2) := by decide +kernel
theorem d_L_law_1536 : decode code 1536 = .ok (.aload_n 2, 1) := by decide +kernel
theorem d_L_law_1537 : decode code 1537 = .ok (.aload_n 0, 1) := by decide +kernel
theorem d_L_law_1538 : decode code 1538 = .ok (.iload 4, 2) := by decide +kernel
theorem d_L_law_1540 : decode code 1540 = .ok (.iconst 1, 1) := by decide +kernel
theorem d_L_law_1541 : decode code 1541 = .ok (.iadd, 1) := by decide +kernel
theorem d_L_law_1542 : decode code 1542 = .ok (.iaload, 1) := by decide +kernel
theorem d_L_law_1543 : decode code 1543 = .ok (.aload_n 0, 1) := by decide +kernel
theorem d_L_law_1544 : decode code 1544 = .ok (.iload 4, 2) := by decide +kernel
theorem d_L_law_1546 : decode code 1546 = .ok (.iconst 2, 1) := by decide +kernel
theorem d_L_law_1547 : decode code 1547 = .ok (.iadd, 1) := by decide +kernel
theorem d_L_law_1548 : decode code 1548 = .ok (.iaload, 1) := by decide +kernel
theorem d_L_law_1549 : decode code 1549 = .ok (.ifCond .eq 7, 3) := by decide +kernel
theorem d_L_law_1552 : decode code 1552 = .ok (.iconst 1, 1) := by decide +kernel
theorem d_L_law_1553 : decode code 1553 = .ok (.goto 4, 3) := by decide +kernel
theorem d_L_law_1556 : decode code 1556 = .ok (.iconst 0, 1) := by decide +kernel
theorem d_L_law_1557 : decode code 1557 = .ok (.invokevirtual 183, 3) := by decide +kernel
theorem d_L_law_1560 : decode code 1560 = .ok (.istore 6, 2) := by decide +kernel
theorem d_L_law_1562 : decode code 1562 = .ok (.aload_n 2, 1) := by decide +kernel
theorem d_L_law_1563 : decode code 1563 = .ok (.invokevirtual 115, 3) := by decide +kernel
theorem d_L_law_1566 : decode code 1566 = .ok (.iload 5, 2) := by decide +kernel
theorem d_L_law_1568 : decode code 1568 = .ok (.if_icmp .eq 5, 3) := by decide +kernel
theorem d_L_law_1571 : decode code 1571 = .ok (.iconst 0, 1) := by decide +kernel
theorem d_L_law_1572 : decode code 1572 = .ok (.ireturn, 1) := by decide +kernel
theorem d_L_law_1573 : decode code 1573 = .ok (.iload 5, 2) := by decide +kernel
theorem d_L_law_1575 : decode code 1575 = .ok (.ifCond .ne 15, 3) := by decide +kernel
theorem d_L_law_1578 : decode code 1578 = .ok (.aload_n 3, 1) := by decide +kernel
theorem d_L_law_1579 : decode code 1579 = .ok (.iconst 0, 1) := by decide +kernel
theorem d_L_law_1580 : decode code 1580 = .ok (.laload, 1) := by decide +kernel
theorem d_L_law_1581 : decode code 1581 = .ok (.iload 6, 2) := by decide +kernel
theorem d_L_law_1583 : decode code 1583 = .ok (.i2l, 1) := by decide +kernel
theorem d_L_law_1584 : decode code 1584 = .ok (.lcmp, 1) := by decide +kernel
theorem d_L_law_1585 : decode code 1585 = .ok (.ifCond .eq 5, 3) := by decide +kernel
theorem d_L_law_1588 : decode code 1588 = .ok (.iconst 0, 1) := by decide +kernel
theorem d_L_law_1589 : decode code 1589 = .ok (.ireturn, 1) := by decide +kernel
theorem d_L_law_1590 : decode code 1590 = .ok (.goto 211, 3) := by decide +kernel
theorem d_L_law_1593 : decode code 1593 = .ok (.aload_n 1, 1) := by decide +kernel
theorem d_L_law_1594 : decode code 1594 = .ok (.aload_n 0, 1) := by decide +kernel
theorem d_L_law_1595 : decode code 1595 = .ok (.iload 4, 2) := by decide +kernel
theorem d_L_law_1597 : decode code 1597 = .ok (.iconst 1, 1) := by decide +kernel
theorem d_L_law_1598 : decode code 1598 = .ok (.iadd, 1) := by decide +kernel
theorem d_L_law_1599 : decode code 1599 = .ok (.iaload, 1) := by decide +kernel
theorem d_L_law_1600 : decode code 1600 = .ok (.aload_n 3, 1) := by decide +kernel
theorem d_L_law_1601 : decode code 1601 = .ok (.invokestatic 184, 3) := by decide +kernel
theorem d_L_law_1604 : decode code 1604 = .ok (.istore 5, 2) := by decide +kernel
theorem d_L_law_1606 : decode code 1606 = .ok (.aload_n 2, 1) := by decide +kernel
theorem d_L_law_1607 : decode code 1607 = .ok (.aload_n 0, 1) := by decide +kernel
theorem d_L_law_1608 : decode code 1608 = .ok (.iload 4, 2) := by decide +kernel
theorem d_L_law_1610 : decode code 1610 = .ok (.iconst 1, 1) := by decide +kernel
theorem d_L_law_1611 : decode code 1611 = .ok (.iadd, 1) := by decide +kernel
theorem d_L_law_1612 : decode code 1612 = .ok (.iaload, 1) := by decide +kernel
theorem d_L_law_1613 : decode code 1613 = .ok (.invokevirtual 186, 3) := by decide +kernel
theorem d_L_law_1616 : decode code 1616 = .ok (.istore 6, 2) := by decide +kernel
theorem d_L_law_1618 : decode code 1618 = .ok (.aload_n 2, 1) := by decide +kernel
theorem d_L_law_1619 : decode code 1619 = .ok (.invokevirtual 115, 3) := by decide +kernel
theorem d_L_law_1622 : decode code 1622 = .ok (.iload 5, 2) := by decide +kernel
theorem d_L_law_1624 : decode code 1624 = .ok (.if_icmp .eq 5, 3) := by decide +kernel
theorem d_L_law_1627 : decode code 1627 = .ok (.iconst 0, 1) := by decide +kernel
theorem d_L_law_1628 : decode code 1628 = .ok (.ireturn, 1) := by decide +kernel
theorem d_L_law_1629 : decode code 1629 = .ok (.iload 5, 2) := by decide +kernel
theorem d_L_law_1631 : decode code 1631 = .ok (.ifCond .ne 15, 3) := by decide +kernel
theorem d_L_law_1634 : decode code 1634 = .ok (.aload_n 3, 1) := by decide +kernel
theorem d_L_law_1635 : decode code 1635 = .ok (.iconst 0, 1) := by decide +kernel
theorem d_L_law_1636 : decode code 1636 = .ok (.laload, 1) := by decide +kernel
theorem d_L_law_1637 : decode code 1637 = .ok (.iload 6, 2) := by decide +kernel
theorem d_L_law_1639 : decode code 1639 = .ok (.i2l, 1) := by decide +kernel
theorem d_L_law_1640 : decode code 1640 = .ok (.lcmp, 1) := by decide +kernel
theorem d_L_law_1641 : decode code 1641 = .ok (.ifCond .eq 5, 3) := by decide +kernel
theorem d_L_law_1644 : decode code 1644 = .ok (.iconst 0, 1) := by decide +kernel
theorem d_L_law_1645 : decode code 1645 = .ok (.ireturn, 1) := by decide +kernel
theorem d_L_law_1646 : decode code 1646 = .ok (.goto 155, 3) := by decide +kernel
theorem d_L_law_1649 : decode code 1649 = .ok (.aload_n 1, 1) := by decide +kernel
theorem d_L_law_1650 : decode code 1650 = .ok (.aload_n 0, 1) := by decide +kernel
theorem d_L_law_1651 : decode code 1651 = .ok (.iload 4, 2) := by decide +kernel
theorem d_L_law_1653 : decode code 1653 = .ok (.iconst 1, 1) := by decide +kernel
theorem d_L_law_1654 : decode code 1654 = .ok (.iadd, 1) := by decide +kernel
theorem d_L_law_1655 : decode code 1655 = .ok (.iaload, 1) := by decide +kernel
theorem d_L_law_1656 : decode code 1656 = .ok (.invokestatic 187, 3) := by decide +kernel
theorem d_L_law_1659 : decode code 1659 = .ok (.istore 5, 2) := by decide +kernel
theorem d_L_law_1661 : decode code 1661 = .ok (.aload_n 2, 1) := by decide +kernel
theorem d_L_law_1662 : decode code 1662 = .ok (.aload_n 0, 1) := by decide +kernel
theorem d_L_law_1663 : decode code 1663 = .ok (.iload 4, 2) := by decide +kernel
theorem d_L_law_1665 : decode code 1665 = .ok (.iconst 1, 1) := by decide +kernel
theorem d_L_law_1666 : decode code 1666 = .ok (.iadd, 1) := by decide +kernel
theorem d_L_law_1667 : decode code 1667 = .ok (.iaload, 1) := by decide +kernel
theorem d_L_law_1668 : decode code 1668 = .ok (.invokevirtual 190, 3) := by decide +kernel
theorem d_L_law_1671 : decode code 1671 = .ok (.aload_n 2, 1) := by decide +kernel
theorem d_L_law_1672 : decode code 1672 = .ok (.invokevirtual 115, 3) := by decide +kernel
theorem d_L_law_1675 : decode code 1675 = .ok (.iload 5, 2) := by decide +kernel
theorem d_L_law_1677 : decode code 1677 = .ok (.if_icmp .eq 5, 3) := by decide +kernel
theorem d_L_law_1680 : decode code 1680 = .ok (.iconst 0, 1) := by decide +kernel
theorem d_L_law_1681 : decode code 1681 = .ok (.ireturn, 1) := by decide +kernel
theorem d_L_law_1682 : decode code 1682 = .ok (.goto 119, 3) := by decide +kernel
theorem d_L_law_1685 : decode code 1685 = .ok (.aload_n 1, 1) := by decide +kernel
theorem d_L_law_1686 : decode code 1686 = .ok (.aload_n 0, 1) := by decide +kernel
theorem d_L_law_1687 : decode code 1687 = .ok (.iload 4, 2) := by decide +kernel
theorem d_L_law_1689 : decode code 1689 = .ok (.iconst 1, 1) := by decide +kernel
theorem d_L_law_1690 : decode code 1690 = .ok (.iadd, 1) := by decide +kernel
theorem d_L_law_1691 : decode code 1691 = .ok (.iaload, 1) := by decide +kernel
theorem d_L_law_1692 : decode code 1692 = .ok (.aload_n 0, 1) := by decide +kernel
theorem d_L_law_1693 : decode code 1693 = .ok (.iload 4, 2) := by decide +kernel
theorem d_L_law_1695 : decode code 1695 = .ok (.iconst 2, 1) := by decide +kernel
theorem d_L_law_1696 : decode code 1696 = .ok (.iadd, 1) := by decide +kernel
theorem d_L_law_1697 : decode code 1697 = .ok (.iaload, 1) := by decide +kernel
theorem d_L_law_1698 : decode code 1698 = .ok (.aload_n 3, 1) := by decide +kernel
theorem d_L_law_1699 : decode code 1699 = .ok (.invokestatic 191, 3) := by decide +kernel
theorem d_L_law_1702 : decode code 1702 = .ok (.istore 5, 2) := by decide +kernel
theorem d_L_law_1704 : decode code 1704 = .ok (.aload_n 2, 1) := by decide +kernel
theorem d_L_law_1705 : decode code 1705 = .ok (.aload_n 0, 1) := by decide +kernel
theorem d_L_law_1706 : decode code 1706 = .ok (.iload 4, 2) := by decide +kernel
theorem d_L_law_1708 : decode code 1708 = .ok (.iconst 1, 1) := by decide +kernel
theorem d_L_law_1709 : decode code 1709 = .ok (.iadd, 1) := by decide +kernel
theorem d_L_law_1710 : decode code 1710 = .ok (.iaload, 1) := by decide +kernel
theorem d_L_law_1711 : decode code 1711 = .ok (.aload_n 0, 1) := by decide +kernel
theorem d_L_law_1712 : decode code 1712 = .ok (.iload 4, 2) := by decide +kernel
theorem d_L_law_1714 : decode code 1714 = .ok (.iconst 2, 1) := by decide +kernel
theorem d_L_law_1715 : decode code 1715 = .ok (.iadd, 1) := by decide +kernel
theorem d_L_law_1716 : decode code 1716 = .ok (.iaload, 1) := by decide +kernel
theorem d_L_law_1717 : decode code 1717 = .ok (.invokevirtual 193, 3) := by decide +kernel
theorem d_L_law_1720 : decode code 1720 = .ok (.istore 6, 2) := by decide +kernel
theorem d_L_law_1722 : decode code 1722 = .ok (.aload_n 2, 1) := by decide +kernel
theorem d_L_law_1723 : decode code 1723 = .ok (.invokevirtual 115, 3) := by decide +kernel
theorem d_L_law_1726 : decode code 1726 = .ok (.iload 5, 2) := by decide +kernel
theorem d_L_law_1728 : decode code 1728 = .ok (.if_icmp .eq 5, 3) := by decide +kernel
theorem d_L_law_1731 : decode code 1731 = .ok (.iconst 0, 1) := by decide +kernel
theorem d_L_law_1732 : decode code 1732 = .ok (.ireturn, 1) := by decide +kernel
theorem d_L_law_1733 : decode code 1733 = .ok (.iload 5, 2) := by decide +kernel
theorem d_L_law_1735 : decode code 1735 = .ok (.ifCond .ne 15, 3) := by decide +kernel
theorem d_L_law_1738 : decode code 1738 = .ok (.aload_n 3, 1) := by decide +kernel
theorem d_L_law_1739 : decode code 1739 = .ok (.iconst 0, 1) := by decide +kernel
theorem d_L_law_1740 : decode code 1740 = .ok (.laload, 1) := by decide +kernel
theorem d_L_law_1741 : decode code 1741 = .ok (.iload 6, 2) := by decide +kernel
theorem d_L_law_1743 : decode code 1743 = .ok (.i2l, 1) := by decide +kernel
theorem d_L_law_1744 : decode code 1744 = .ok (.lcmp, 1) := by decide +kernel
theorem d_L_law_1745 : decode code 1745 = .ok (.ifCond .eq 5, 3) := by decide +kernel
theorem d_L_law_1748 : decode code 1748 = .ok (.iconst 0, 1) := by decide +kernel
theorem d_L_law_1749 : decode code 1749 = .ok (.ireturn, 1) := by decide +kernel
theorem d_L_law_1750 : decode code 1750 = .ok (.goto 51, 3) := by decide +kernel
theorem d_L_law_1753 : decode code 1753 = .ok (.aload_n 1, 1) := by decide +kernel
theorem d_L_law_1754 : decode code 1754 = .ok (.aload_n 0, 1) := by decide +kernel
theorem d_L_law_1755 : decode code 1755 = .ok (.iload 4, 2) := by decide +kernel
theorem d_L_law_1757 : decode code 1757 = .ok (.iconst 1, 1) := by decide +kernel
theorem d_L_law_1758 : decode code 1758 = .ok (.iadd, 1) := by decide +kernel
theorem d_L_law_1759 : decode code 1759 = .ok (.iaload, 1) := by decide +kernel
theorem d_L_law_1760 : decode code 1760 = .ok (.aload_n 0, 1) := by decide +kernel
theorem d_L_law_1761 : decode code 1761 = .ok (.iload 4, 2) := by decide +kernel
theorem d_L_law_1763 : decode code 1763 = .ok (.iconst 2, 1) := by decide +kernel
theorem d_L_law_1764 : decode code 1764 = .ok (.iadd, 1) := by decide +kernel
theorem d_L_law_1765 : decode code 1765 = .ok (.iaload, 1) := by decide +kernel
theorem d_L_law_1766 : decode code 1766 = .ok (.invokestatic 194, 3) := by decide +kernel
theorem d_L_law_1769 : decode code 1769 = .ok (.istore 5, 2) := by decide +kernel
theorem d_L_law_1771 : decode code 1771 = .ok (.aload_n 2, 1) := by decide +kernel
theorem d_L_law_1772 : decode code 1772 = .ok (.aload_n 0, 1) := by decide +kernel
theorem d_L_law_1773 : decode code 1773 = .ok (.iload 4, 2) := by decide +kernel
theorem d_L_law_1775 : decode code 1775 = .ok (.iconst 1, 1) := by decide +kernel
theorem d_L_law_1776 : decode code 1776 = .ok (.iadd, 1) := by decide +kernel
theorem d_L_law_1777 : decode code 1777 = .ok (.iaload, 1) := by decide +kernel
theorem d_L_law_1778 : decode code 1778 = .ok (.aload_n 0, 1) := by decide +kernel
theorem d_L_law_1779 : decode code 1779 = .ok (.iload 4, 2) := by decide +kernel
theorem d_L_law_1781 : decode code 1781 = .ok (.iconst 2, 1) := by decide +kernel
theorem d_L_law_1782 : decode code 1782 = .ok (.iadd, 1) := by decide +kernel
theorem d_L_law_1783 : decode code 1783 = .ok (.iaload, 1) := by decide +kernel
theorem d_L_law_1784 : decode code 1784 = .ok (.invokevirtual 196, 3) := by decide +kernel
theorem d_L_law_1787 : decode code 1787 = .ok (.aload_n 2, 1) := by decide +kernel
theorem d_L_law_1788 : decode code 1788 = .ok (.invokevirtual 115, 3) := by decide +kernel
theorem d_L_law_1791 : decode code 1791 = .ok (.iload 5, 2) := by decide +kernel
theorem d_L_law_1793 : decode code 1793 = .ok (.if_icmp .eq 5, 3) := by decide +kernel
theorem d_L_law_1796 : decode code 1796 = .ok (.iconst 0, 1) := by decide +kernel
theorem d_L_law_1797 : decode code 1797 = .ok (.ireturn, 1) := by decide +kernel
theorem d_L_law_1798 : decode code 1798 = .ok (.goto 3, 3) := by decide +kernel
theorem d_L_law_1801 : decode code 1801 = .ok (.iinc 4 4, 3) := by decide +kernel
theorem d_L_law_1804 : decode code 1804 = .ok (.goto (-1781), 3) := by decide +kernel
theorem d_L_law_1807 : decode code 1807 = .ok (.iconst 1, 1) := by decide +kernel
theorem d_L_law_1808 : decode code 1808 = .ok (.ireturn, 1) := by decide +kernel
