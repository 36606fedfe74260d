/-! ===== the law over the small machine ===== -/
theorem i_law_0 : pm_at q_law 0 = some (.new 7, 3) := by decide +kernel
theorem i_law_3 : pm_at q_law 3 = some (.dup, 1) := by decide +kernel
theorem i_law_4 : pm_at q_law 4 = some (.invokespecial 9, 3) := by decide +kernel
theorem i_law_7 : pm_at q_law 7 = some (.astore_n 1, 1) := by decide +kernel
theorem i_law_8 : pm_at q_law 8 = some (.new 10, 3) := by decide +kernel
theorem i_law_11 : pm_at q_law 11 = some (.dup, 1) := by decide +kernel
theorem i_law_12 : pm_at q_law 12 = some (.invokespecial 12, 3) := by decide +kernel
theorem i_law_15 : pm_at q_law 15 = some (.astore_n 2, 1) := by decide +kernel
theorem i_law_16 : pm_at q_law 16 = some (.iconst 0, 1) := by decide +kernel
theorem i_law_17 : pm_at q_law 17 = some (.istore_n 3, 1) := by decide +kernel
theorem i_law_18 : pm_at q_law 18 = some (.iload_n 3, 1) := by decide +kernel
theorem i_law_19 : pm_at q_law 19 = some (.aload_n 0, 1) := by decide +kernel
theorem i_law_20 : pm_at q_law 20 = some (.arraylength, 1) := by decide +kernel
theorem i_law_21 : pm_at q_law 21 = some (.bipush 6, 2) := by decide +kernel
theorem i_law_23 : pm_at q_law 23 = some (.isub, 1) := by decide +kernel
theorem i_law_24 : pm_at q_law 24 = some (.if_icmp .gt 1137, 3) := by decide +kernel
theorem i_law_27 : pm_at q_law 27 = some (.aload_n 0, 1) := by decide +kernel
theorem i_law_28 : pm_at q_law 28 = some (.iload_n 3, 1) := by decide +kernel
theorem i_law_29 : pm_at q_law 29 = some (.iaload, 1) := by decide +kernel
theorem i_law_30 : pm_at q_law 30 = some (.bipush 63, 2) := by decide +kernel
theorem i_law_32 : pm_at q_law 32 = some (.iand, 1) := by decide +kernel
theorem i_law_33 : pm_at q_law 33 = some (.tableswitch 1122 0 34 #[155, 178, 241, 264, 277, 290, 313, 346, 369, 382, 415, 458, 491, 514, 537, 560, 583, 616, 659, 672, 705, 768, 801, 824, 847, 870, 903, 926, 959, 992, 1016, 1039, 1062, 1085, 1108], 155) := by decide +kernel
theorem i_law_188 : pm_at q_law 188 = some (.aload_n 1, 1) := by decide +kernel
theorem i_law_189 : pm_at q_law 189 = some (.aload_n 0, 1) := by decide +kernel
theorem i_law_190 : pm_at q_law 190 = some (.iload_n 3, 1) := by decide +kernel
theorem i_law_191 : pm_at q_law 191 = some (.iconst 1, 1) := by decide +kernel
theorem i_law_192 : pm_at q_law 192 = some (.iadd, 1) := by decide +kernel
theorem i_law_193 : pm_at q_law 193 = some (.iaload, 1) := by decide +kernel
theorem i_law_194 : pm_at q_law 194 = some (.invokevirtual 13, 3) := by decide +kernel
theorem i_law_197 : pm_at q_law 197 = some (.aload_n 2, 1) := by decide +kernel
theorem i_law_198 : pm_at q_law 198 = some (.aload_n 0, 1) := by decide +kernel
theorem i_law_199 : pm_at q_law 199 = some (.iload_n 3, 1) := by decide +kernel
theorem i_law_200 : pm_at q_law 200 = some (.iconst 1, 1) := by decide +kernel
theorem i_law_201 : pm_at q_law 201 = some (.iadd, 1) := by decide +kernel
theorem i_law_202 : pm_at q_law 202 = some (.iaload, 1) := by decide +kernel
theorem i_law_203 : pm_at q_law 203 = some (.invokevirtual 17, 3) := by decide +kernel
theorem i_law_206 : pm_at q_law 206 = some (.if_icmp .eq 949, 3) := by decide +kernel
theorem i_law_209 : pm_at q_law 209 = some (.iconst 0, 1) := by decide +kernel
theorem i_law_210 : pm_at q_law 210 = some (.ireturn, 1) := by decide +kernel
theorem i_law_211 : pm_at q_law 211 = some (.aload_n 1, 1) := by decide +kernel
theorem i_law_212 : pm_at q_law 212 = some (.aload_n 0, 1) := by decide +kernel
theorem i_law_213 : pm_at q_law 213 = some (.iload_n 3, 1) := by decide +kernel
theorem i_law_214 : pm_at q_law 214 = some (.iconst 1, 1) := by decide +kernel
theorem i_law_215 : pm_at q_law 215 = some (.iadd, 1) := by decide +kernel
theorem i_law_216 : pm_at q_law 216 = some (.iaload, 1) := by decide +kernel
theorem i_law_217 : pm_at q_law 217 = some (.aload_n 0, 1) := by decide +kernel
theorem i_law_218 : pm_at q_law 218 = some (.iload_n 3, 1) := by decide +kernel
theorem i_law_219 : pm_at q_law 219 = some (.iconst 2, 1) := by decide +kernel
theorem i_law_220 : pm_at q_law 220 = some (.iadd, 1) := by decide +kernel
theorem i_law_221 : pm_at q_law 221 = some (.iaload, 1) := by decide +kernel
theorem i_law_222 : pm_at q_law 222 = some (.aload_n 0, 1) := by decide +kernel
theorem i_law_223 : pm_at q_law 223 = some (.iload_n 3, 1) := by decide +kernel
theorem i_law_224 : pm_at q_law 224 = some (.iconst 3, 1) := by decide +kernel
theorem i_law_225 : pm_at q_law 225 = some (.iadd, 1) := by decide +kernel
theorem i_law_226 : pm_at q_law 226 = some (.iaload, 1) := by decide +kernel
theorem i_law_227 : pm_at q_law 227 = some (.aload_n 0, 1) := by decide +kernel
theorem i_law_228 : pm_at q_law 228 = some (.iload_n 3, 1) := by decide +kernel
theorem i_law_229 : pm_at q_law 229 = some (.iconst 4, 1) := by decide +kernel
theorem i_law_230 : pm_at q_law 230 = some (.iadd, 1) := by decide +kernel
theorem i_law_231 : pm_at q_law 231 = some (.iaload, 1) := by decide +kernel
theorem i_law_232 : pm_at q_law 232 = some (.aload_n 0, 1) := by decide +kernel
theorem i_law_233 : pm_at q_law 233 = some (.iload_n 3, 1) := by decide +kernel
theorem i_law_234 : pm_at q_law 234 = some (.iconst 5, 1) := by decide +kernel
theorem i_law_235 : pm_at q_law 235 = some (.iadd, 1) := by decide +kernel
theorem i_law_236 : pm_at q_law 236 = some (.iaload, 1) := by decide +kernel
theorem i_law_237 : pm_at q_law 237 = some (.invokevirtual 18, 3) := by decide +kernel
theorem i_law_240 : pm_at q_law 240 = some (.aload_n 2, 1) := by decide +kernel
theorem i_law_241 : pm_at q_law 241 = some (.aload_n 0, 1) := by decide +kernel
theorem i_law_242 : pm_at q_law 242 = some (.iload_n 3, 1) := by decide +kernel
theorem i_law_243 : pm_at q_law 243 = some (.iconst 1, 1) := by decide +kernel
theorem i_law_244 : pm_at q_law 244 = some (.iadd, 1) := by decide +kernel
theorem i_law_245 : pm_at q_law 245 = some (.iaload, 1) := by decide +kernel
theorem i_law_246 : pm_at q_law 246 = some (.aload_n 0, 1) := by decide +kernel
theorem i_law_247 : pm_at q_law 247 = some (.iload_n 3, 1) := by decide +kernel
theorem i_law_248 : pm_at q_law 248 = some (.iconst 2, 1) := by decide +kernel
theorem i_law_249 : pm_at q_law 249 = some (.iadd, 1) := by decide +kernel
theorem i_law_250 : pm_at q_law 250 = some (.iaload, 1) := by decide +kernel
theorem i_law_251 : pm_at q_law 251 = some (.aload_n 0, 1) := by decide +kernel
theorem i_law_252 : pm_at q_law 252 = some (.iload_n 3, 1) := by decide +kernel
theorem i_law_253 : pm_at q_law 253 = some (.iconst 3, 1) := by decide +kernel
theorem i_law_254 : pm_at q_law 254 = some (.iadd, 1) := by decide +kernel
theorem i_law_255 : pm_at q_law 255 = some (.iaload, 1) := by decide +kernel
theorem i_law_256 : pm_at q_law 256 = some (.aload_n 0, 1) := by decide +kernel
theorem i_law_257 : pm_at q_law 257 = some (.iload_n 3, 1) := by decide +kernel
theorem i_law_258 : pm_at q_law 258 = some (.iconst 4, 1) := by decide +kernel
theorem i_law_259 : pm_at q_law 259 = some (.iadd, 1) := by decide +kernel
theorem i_law_260 : pm_at q_law 260 = some (.iaload, 1) := by decide +kernel
theorem i_law_261 : pm_at q_law 261 = some (.aload_n 0, 1) := by decide +kernel
theorem i_law_262 : pm_at q_law 262 = some (.iload_n 3, 1) := by decide +kernel
theorem i_law_263 : pm_at q_law 263 = some (.iconst 5, 1) := by decide +kernel
theorem i_law_264 : pm_at q_law 264 = some (.iadd, 1) := by decide +kernel
theorem i_law_265 : pm_at q_law 265 = some (.iaload, 1) := by decide +kernel
theorem i_law_266 : pm_at q_law 266 = some (.invokevirtual 22, 3) := by decide +kernel
theorem i_law_269 : pm_at q_law 269 = some (.if_icmp .eq 886, 3) := by decide +kernel
theorem i_law_272 : pm_at q_law 272 = some (.iconst 0, 1) := by decide +kernel
theorem i_law_273 : pm_at q_law 273 = some (.ireturn, 1) := by decide +kernel
theorem i_law_274 : pm_at q_law 274 = some (.aload_n 1, 1) := by decide +kernel
theorem i_law_275 : pm_at q_law 275 = some (.aload_n 0, 1) := by decide +kernel
theorem i_law_276 : pm_at q_law 276 = some (.iload_n 3, 1) := by decide +kernel
theorem i_law_277 : pm_at q_law 277 = some (.iconst 1, 1) := by decide +kernel
theorem i_law_278 : pm_at q_law 278 = some (.iadd, 1) := by decide +kernel
theorem i_law_279 : pm_at q_law 279 = some (.iaload, 1) := by decide +kernel
theorem i_law_280 : pm_at q_law 280 = some (.invokevirtual 23, 3) := by decide +kernel
theorem i_law_283 : pm_at q_law 283 = some (.aload_n 2, 1) := by decide +kernel
theorem i_law_284 : pm_at q_law 284 = some (.aload_n 0, 1) := by decide +kernel
theorem i_law_285 : pm_at q_law 285 = some (.iload_n 3, 1) := by decide +kernel
theorem i_law_286 : pm_at q_law 286 = some (.iconst 1, 1) := by decide +kernel
theorem i_law_287 : pm_at q_law 287 = some (.iadd, 1) := by decide +kernel
theorem i_law_288 : pm_at q_law 288 = some (.iaload, 1) := by decide +kernel
theorem i_law_289 : pm_at q_law 289 = some (.invokevirtual 26, 3) := by decide +kernel
theorem i_law_292 : pm_at q_law 292 = some (.if_icmp .eq 863, 3) := by decide +kernel
theorem i_law_295 : pm_at q_law 295 = some (.iconst 0, 1) := by decide +kernel
theorem i_law_296 : pm_at q_law 296 = some (.ireturn, 1) := by decide +kernel
theorem i_law_297 : pm_at q_law 297 = some (.aload_n 1, 1) := by decide +kernel
theorem i_law_298 : pm_at q_law 298 = some (.invokevirtual 27, 3) := by decide +kernel
theorem i_law_301 : pm_at q_law 301 = some (.aload_n 2, 1) := by decide +kernel
theorem i_law_302 : pm_at q_law 302 = some (.invokevirtual 31, 3) := by decide +kernel
theorem i_law_305 : pm_at q_law 305 = some (.if_icmp .eq 850, 3) := by decide +kernel
theorem i_law_308 : pm_at q_law 308 = some (.iconst 0, 1) := by decide +kernel
theorem i_law_309 : pm_at q_law 309 = some (.ireturn, 1) := by decide +kernel
theorem i_law_310 : pm_at q_law 310 = some (.aload_n 1, 1) := by decide +kernel
theorem i_law_311 : pm_at q_law 311 = some (.invokevirtual 32, 3) := by decide +kernel
theorem i_law_314 : pm_at q_law 314 = some (.aload_n 2, 1) := by decide +kernel
theorem i_law_315 : pm_at q_law 315 = some (.invokevirtual 35, 3) := by decide +kernel
theorem i_law_318 : pm_at q_law 318 = some (.if_icmp .eq 837, 3) := by decide +kernel
theorem i_law_321 : pm_at q_law 321 = some (.iconst 0, 1) := by decide +kernel
theorem i_law_322 : pm_at q_law 322 = some (.ireturn, 1) := by decide +kernel
theorem i_law_323 : pm_at q_law 323 = some (.aload_n 1, 1) := by decide +kernel
theorem i_law_324 : pm_at q_law 324 = some (.aload_n 0, 1) := by decide +kernel
theorem i_law_325 : pm_at q_law 325 = some (.iload_n 3, 1) := by decide +kernel
theorem i_law_326 : pm_at q_law 326 = some (.iconst 1, 1) := by decide +kernel
theorem i_law_327 : pm_at q_law 327 = some (.iadd, 1) := by decide +kernel
theorem i_law_328 : pm_at q_law 328 = some (.iaload, 1) := by decide +kernel
theorem i_law_329 : pm_at q_law 329 = some (.invokevirtual 36, 3) := by decide +kernel
theorem i_law_332 : pm_at q_law 332 = some (.aload_n 2, 1) := by decide +kernel
theorem i_law_333 : pm_at q_law 333 = some (.aload_n 0, 1) := by decide +kernel
theorem i_law_334 : pm_at q_law 334 = some (.iload_n 3, 1) := by decide +kernel
theorem i_law_335 : pm_at q_law 335 = some (.iconst 1, 1) := by decide +kernel
theorem i_law_336 : pm_at q_law 336 = some (.iadd, 1) := by decide +kernel
theorem i_law_337 : pm_at q_law 337 = some (.iaload, 1) := by decide +kernel
theorem i_law_338 : pm_at q_law 338 = some (.invokevirtual 39, 3) := by decide +kernel
theorem i_law_341 : pm_at q_law 341 = some (.if_icmp .eq 814, 3) := by decide +kernel
theorem i_law_344 : pm_at q_law 344 = some (.iconst 0, 1) := by decide +kernel
theorem i_law_345 : pm_at q_law 345 = some (.ireturn, 1) := by decide +kernel
theorem i_law_346 : pm_at q_law 346 = some (.aload_n 1, 1) := by decide +kernel
theorem i_law_347 : pm_at q_law 347 = some (.aload_n 0, 1) := by decide +kernel
theorem i_law_348 : pm_at q_law 348 = some (.iload_n 3, 1) := by decide +kernel
theorem i_law_349 : pm_at q_law 349 = some (.iconst 1, 1) := by decide +kernel
theorem i_law_350 : pm_at q_law 350 = some (.iadd, 1) := by decide +kernel
theorem i_law_351 : pm_at q_law 351 = some (.iaload, 1) := by decide +kernel
theorem i_law_352 : pm_at q_law 352 = some (.aload_n 0, 1) := by decide +kernel
theorem i_law_353 : pm_at q_law 353 = some (.iload_n 3, 1) := by decide +kernel
theorem i_law_354 : pm_at q_law 354 = some (.iconst 2, 1) := by decide +kernel
theorem i_law_355 : pm_at q_law 355 = some (.iadd, 1) := by decide +kernel
theorem i_law_356 : pm_at q_law 356 = some (.iaload, 1) := by decide +kernel
theorem i_law_357 : pm_at q_law 357 = some (.invokevirtual 40, 3) := by decide +kernel
theorem i_law_360 : pm_at q_law 360 = some (.aload_n 2, 1) := by decide +kernel
theorem i_law_361 : pm_at q_law 361 = some (.aload_n 0, 1) := by decide +kernel
theorem i_law_362 : pm_at q_law 362 = some (.iload_n 3, 1) := by decide +kernel
theorem i_law_363 : pm_at q_law 363 = some (.iconst 1, 1) := by decide +kernel
theorem i_law_364 : pm_at q_law 364 = some (.iadd, 1) := by decide +kernel
theorem i_law_365 : pm_at q_law 365 = some (.iaload, 1) := by decide +kernel
theorem i_law_366 : pm_at q_law 366 = some (.aload_n 0, 1) := by decide +kernel
theorem i_law_367 : pm_at q_law 367 = some (.iload_n 3, 1) := by decide +kernel
theorem i_law_368 : pm_at q_law 368 = some (.iconst 2, 1) := by decide +kernel
theorem i_law_369 : pm_at q_law 369 = some (.iadd, 1) := by decide +kernel
theorem i_law_370 : pm_at q_law 370 = some (.iaload, 1) := by decide +kernel
theorem i_law_371 : pm_at q_law 371 = some (.invokevirtual 44, 3) := by decide +kernel
theorem i_law_374 : pm_at q_law 374 = some (.if_icmp .eq 781, 3) := by decide +kernel
theorem i_law_377 : pm_at q_law 377 = some (.iconst 0, 1) := by decide +kernel
theorem i_law_378 : pm_at q_law 378 = some (.ireturn, 1) := by decide +kernel
theorem i_law_379 : pm_at q_law 379 = some (.aload_n 1, 1) := by decide +kernel
theorem i_law_380 : pm_at q_law 380 = some (.aload_n 0, 1) := by decide +kernel
theorem i_law_381 : pm_at q_law 381 = some (.iload_n 3, 1) := by decide +kernel
theorem i_law_382 : pm_at q_law 382 = some (.iconst 1, 1) := by decide +kernel
theorem i_law_383 : pm_at q_law 383 = some (.iadd, 1) := by decide +kernel
theorem i_law_384 : pm_at q_law 384 = some (.iaload, 1) := by decide +kernel
theorem i_law_385 : pm_at q_law 385 = some (.invokevirtual 45, 3) := by decide +kernel
theorem i_law_388 : pm_at q_law 388 = some (.aload_n 2, 1) := by decide +kernel
theorem i_law_389 : pm_at q_law 389 = some (.aload_n 0, 1) := by decide +kernel
theorem i_law_390 : pm_at q_law 390 = some (.iload_n 3, 1) := by decide +kernel
theorem i_law_391 : pm_at q_law 391 = some (.iconst 1, 1) := by decide +kernel
theorem i_law_392 : pm_at q_law 392 = some (.iadd, 1) := by decide +kernel
theorem i_law_393 : pm_at q_law 393 = some (.iaload, 1) := by decide +kernel
theorem i_law_394 : pm_at q_law 394 = some (.invokevirtual 48, 3) := by decide +kernel
theorem i_law_397 : pm_at q_law 397 = some (.if_icmp .eq 758, 3) := by decide +kernel
theorem i_law_400 : pm_at q_law 400 = some (.iconst 0, 1) := by decide +kernel
theorem i_law_401 : pm_at q_law 401 = some (.ireturn, 1) := by decide +kernel
theorem i_law_402 : pm_at q_law 402 = some (.aload_n 1, 1) := by decide +kernel
theorem i_law_403 : pm_at q_law 403 = some (.invokevirtual 49, 3) := by decide +kernel
theorem i_law_406 : pm_at q_law 406 = some (.aload_n 2, 1) := by decide +kernel
theorem i_law_407 : pm_at q_law 407 = some (.invokevirtual 52, 3) := by decide +kernel
theorem i_law_410 : pm_at q_law 410 = some (.if_icmp .eq 745, 3) := by decide +kernel
theorem i_law_413 : pm_at q_law 413 = some (.iconst 0, 1) := by decide +kernel
theorem i_law_414 : pm_at q_law 414 = some (.ireturn, 1) := by decide +kernel
theorem i_law_415 : pm_at q_law 415 = some (.aload_n 1, 1) := by decide +kernel
theorem i_law_416 : pm_at q_law 416 = some (.aload_n 0, 1) := by decide +kernel
theorem i_law_417 : pm_at q_law 417 = some (.iload_n 3, 1) := by decide +kernel
theorem i_law_418 : pm_at q_law 418 = some (.iconst 1, 1) := by decide +kernel
theorem i_law_419 : pm_at q_law 419 = some (.iadd, 1) := by decide +kernel
theorem i_law_420 : pm_at q_law 420 = some (.iaload, 1) := by decide +kernel
theorem i_law_421 : pm_at q_law 421 = some (.aload_n 0, 1) := by decide +kernel
theorem i_law_422 : pm_at q_law 422 = some (.iload_n 3, 1) := by decide +kernel
theorem i_law_423 : pm_at q_law 423 = some (.iconst 2, 1) := by decide +kernel
theorem i_law_424 : pm_at q_law 424 = some (.iadd, 1) := by decide +kernel
theorem i_law_425 : pm_at q_law 425 = some (.iaload, 1) := by decide +kernel
theorem i_law_426 : pm_at q_law 426 = some (.invokevirtual 53, 3) := by decide +kernel
theorem i_law_429 : pm_at q_law 429 = some (.aload_n 2, 1) := by decide +kernel
theorem i_law_430 : pm_at q_law 430 = some (.aload_n 0, 1) := by decide +kernel
theorem i_law_431 : pm_at q_law 431 = some (.iload_n 3, 1) := by decide +kernel
theorem i_law_432 : pm_at q_law 432 = some (.iconst 1, 1) := by decide +kernel
theorem i_law_433 : pm_at q_law 433 = some (.iadd, 1) := by decide +kernel
theorem i_law_434 : pm_at q_law 434 = some (.iaload, 1) := by decide +kernel
theorem i_law_435 : pm_at q_law 435 = some (.aload_n 0, 1) := by decide +kernel
theorem i_law_436 : pm_at q_law 436 = some (.iload_n 3, 1) := by decide +kernel
theorem i_law_437 : pm_at q_law 437 = some (.iconst 2, 1) := by decide +kernel
theorem i_law_438 : pm_at q_law 438 = some (.iadd, 1) := by decide +kernel
theorem i_law_439 : pm_at q_law 439 = some (.iaload, 1) := by decide +kernel
theorem i_law_440 : pm_at q_law 440 = some (.invokevirtual 56, 3) := by decide +kernel
theorem i_law_443 : pm_at q_law 443 = some (.if_icmp .eq 712, 3) := by decide +kernel
theorem i_law_446 : pm_at q_law 446 = some (.iconst 0, 1) := by decide +kernel
theorem i_law_447 : pm_at q_law 447 = some (.ireturn, 1) := by decide +kernel
theorem i_law_448 : pm_at q_law 448 = some (.aload_n 1, 1) := by decide +kernel
theorem i_law_449 : pm_at q_law 449 = some (.aload_n 0, 1) := by decide +kernel
theorem i_law_450 : pm_at q_law 450 = some (.iload_n 3, 1) := by decide +kernel
theorem i_law_451 : pm_at q_law 451 = some (.iconst 1, 1) := by decide +kernel
theorem i_law_452 : pm_at q_law 452 = some (.iadd, 1) := by decide +kernel
theorem i_law_453 : pm_at q_law 453 = some (.iaload, 1) := by decide +kernel
theorem i_law_454 : pm_at q_law 454 = some (.aload_n 0, 1) := by decide +kernel
theorem i_law_455 : pm_at q_law 455 = some (.iload_n 3, 1) := by decide +kernel
theorem i_law_456 : pm_at q_law 456 = some (.iconst 2, 1) := by decide +kernel
theorem i_law_457 : pm_at q_law 457 = some (.iadd, 1) := by decide +kernel
theorem i_law_458 : pm_at q_law 458 = some (.iaload, 1) := by decide +kernel
theorem i_law_459 : pm_at q_law 459 = some (.aload_n 0, 1) := by decide +kernel
theorem i_law_460 : pm_at q_law 460 = some (.iload_n 3, 1) := by decide +kernel
theorem i_law_461 : pm_at q_law 461 = some (.iconst 3, 1) := by decide +kernel
theorem i_law_462 : pm_at q_law 462 = some (.iadd, 1) := by decide +kernel
theorem i_law_463 : pm_at q_law 463 = some (.iaload, 1) := by decide +kernel
theorem i_law_464 : pm_at q_law 464 = some (.invokevirtual 57, 3) := by decide +kernel
theorem i_law_467 : pm_at q_law 467 = some (.aload_n 2, 1) := by decide +kernel
theorem i_law_468 : pm_at q_law 468 = some (.aload_n 0, 1) := by decide +kernel
theorem i_law_469 : pm_at q_law 469 = some (.iload_n 3, 1) := by decide +kernel
theorem i_law_470 : pm_at q_law 470 = some (.iconst 1, 1) := by decide +kernel
theorem i_law_471 : pm_at q_law 471 = some (.iadd, 1) := by decide +kernel
theorem i_law_472 : pm_at q_law 472 = some (.iaload, 1) := by decide +kernel
theorem i_law_473 : pm_at q_law 473 = some (.aload_n 0, 1) := by decide +kernel
theorem i_law_474 : pm_at q_law 474 = some (.iload_n 3, 1) := by decide +kernel
theorem i_law_475 : pm_at q_law 475 = some (.iconst 2, 1) := by decide +kernel
theorem i_law_476 : pm_at q_law 476 = some (.iadd, 1) := by decide +kernel
theorem i_law_477 : pm_at q_law 477 = some (.iaload, 1) := by decide +kernel
theorem i_law_478 : pm_at q_law 478 = some (.aload_n 0, 1) := by decide +kernel
theorem i_law_479 : pm_at q_law 479 = some (.iload_n 3, 1) := by decide +kernel
theorem i_law_480 : pm_at q_law 480 = some (.iconst 3, 1) := by decide +kernel
theorem i_law_481 : pm_at q_law 481 = some (.iadd, 1) := by decide +kernel
theorem i_law_482 : pm_at q_law 482 = some (.iaload, 1) := by decide +kernel
theorem i_law_483 : pm_at q_law 483 = some (.invokevirtual 61, 3) := by decide +kernel
theorem i_law_486 : pm_at q_law 486 = some (.if_icmp .eq 669, 3) := by decide +kernel
theorem i_law_489 : pm_at q_law 489 = some (.iconst 0, 1) := by decide +kernel
theorem i_law_490 : pm_at q_law 490 = some (.ireturn, 1) := by decide +kernel
theorem i_law_491 : pm_at q_law 491 = some (.aload_n 1, 1) := by decide +kernel
theorem i_law_492 : pm_at q_law 492 = some (.aload_n 0, 1) := by decide +kernel
theorem i_law_493 : pm_at q_law 493 = some (.iload_n 3, 1) := by decide +kernel
theorem i_law_494 : pm_at q_law 494 = some (.iconst 1, 1) := by decide +kernel
theorem i_law_495 : pm_at q_law 495 = some (.iadd, 1) := by decide +kernel
theorem i_law_496 : pm_at q_law 496 = some (.iaload, 1) := by decide +kernel
theorem i_law_497 : pm_at q_law 497 = some (.aload_n 0, 1) := by decide +kernel
theorem i_law_498 : pm_at q_law 498 = some (.iload_n 3, 1) := by decide +kernel
theorem i_law_499 : pm_at q_law 499 = some (.iconst 2, 1) := by decide +kernel
theorem i_law_500 : pm_at q_law 500 = some (.iadd, 1) := by decide +kernel
theorem i_law_501 : pm_at q_law 501 = some (.iaload, 1) := by decide +kernel
theorem i_law_502 : pm_at q_law 502 = some (.invokevirtual 62, 3) := by decide +kernel
theorem i_law_505 : pm_at q_law 505 = some (.aload_n 2, 1) := by decide +kernel
theorem i_law_506 : pm_at q_law 506 = some (.aload_n 0, 1) := by decide +kernel
theorem i_law_507 : pm_at q_law 507 = some (.iload_n 3, 1) := by decide +kernel
theorem i_law_508 : pm_at q_law 508 = some (.iconst 1, 1) := by decide +kernel
theorem i_law_509 : pm_at q_law 509 = some (.iadd, 1) := by decide +kernel
theorem i_law_510 : pm_at q_law 510 = some (.iaload, 1) := by decide +kernel
theorem i_law_511 : pm_at q_law 511 = some (.aload_n 0, 1) := by decide +kernel
theorem i_law_512 : pm_at q_law 512 = some (.iload_n 3, 1) := by decide +kernel
theorem i_law_513 : pm_at q_law 513 = some (.iconst 2, 1) := by decide +kernel
theorem i_law_514 : pm_at q_law 514 = some (.iadd, 1) := by decide +kernel
theorem i_law_515 : pm_at q_law 515 = some (.iaload, 1) := by decide +kernel
theorem i_law_516 : pm_at q_law 516 = some (.invokevirtual 65, 3) := by decide +kernel
theorem i_law_519 : pm_at q_law 519 = some (.if_icmp .eq 636, 3) := by decide +kernel
theorem i_law_522 : pm_at q_law 522 = some (.iconst 0, 1) := by decide +kernel
theorem i_law_523 : pm_at q_law 523 = some (.ireturn, 1) := by decide +kernel
theorem i_law_524 : pm_at q_law 524 = some (.aload_n 1, 1) := by decide +kernel
theorem i_law_525 : pm_at q_law 525 = some (.aload_n 0, 1) := by decide +kernel
theorem i_law_526 : pm_at q_law 526 = some (.iload_n 3, 1) := by decide +kernel
theorem i_law_527 : pm_at q_law 527 = some (.iconst 1, 1) := by decide +kernel
theorem i_law_528 : pm_at q_law 528 = some (.iadd, 1) := by decide +kernel
theorem i_law_529 : pm_at q_law 529 = some (.iaload, 1) := by decide +kernel
theorem i_law_530 : pm_at q_law 530 = some (.invokevirtual 66, 3) := by decide +kernel
theorem i_law_533 : pm_at q_law 533 = some (.aload_n 2, 1) := by decide +kernel
theorem i_law_534 : pm_at q_law 534 = some (.aload_n 0, 1) := by decide +kernel
theorem i_law_535 : pm_at q_law 535 = some (.iload_n 3, 1) := by decide +kernel
theorem i_law_536 : pm_at q_law 536 = some (.iconst 1, 1) := by decide +kernel
theorem i_law_537 : pm_at q_law 537 = some (.iadd, 1) := by decide +kernel
theorem i_law_538 : pm_at q_law 538 = some (.iaload, 1) := by decide +kernel
theorem i_law_539 : pm_at q_law 539 = some (.invokevirtual 69, 3) := by decide +kernel
theorem i_law_542 : pm_at q_law 542 = some (.if_icmp .eq 613, 3) := by decide +kernel
theorem i_law_545 : pm_at q_law 545 = some (.iconst 0, 1) := by decide +kernel
theorem i_law_546 : pm_at q_law 546 = some (.ireturn, 1) := by decide +kernel
theorem i_law_547 : pm_at q_law 547 = some (.aload_n 1, 1) := by decide +kernel
theorem i_law_548 : pm_at q_law 548 = some (.aload_n 0, 1) := by decide +kernel
theorem i_law_549 : pm_at q_law 549 = some (.iload_n 3, 1) := by decide +kernel
theorem i_law_550 : pm_at q_law 550 = some (.iconst 1, 1) := by decide +kernel
theorem i_law_551 : pm_at q_law 551 = some (.iadd, 1) := by decide +kernel
theorem i_law_552 : pm_at q_law 552 = some (.iaload, 1) := by decide +kernel
theorem i_law_553 : pm_at q_law 553 = some (.invokevirtual 70, 3) := by decide +kernel
theorem i_law_556 : pm_at q_law 556 = some (.aload_n 2, 1) := by decide +kernel
theorem i_law_557 : pm_at q_law 557 = some (.aload_n 0, 1) := by decide +kernel
theorem i_law_558 : pm_at q_law 558 = some (.iload_n 3, 1) := by decide +kernel
theorem i_law_559 : pm_at q_law 559 = some (.iconst 1, 1) := by decide +kernel
theorem i_law_560 : pm_at q_law 560 = some (.iadd, 1) := by decide +kernel
theorem i_law_561 : pm_at q_law 561 = some (.iaload, 1) := by decide +kernel
theorem i_law_562 : pm_at q_law 562 = some (.invokevirtual 73, 3) := by decide +kernel
theorem i_law_565 : pm_at q_law 565 = some (.if_icmp .eq 590, 3) := by decide +kernel
theorem i_law_568 : pm_at q_law 568 = some (.iconst 0, 1) := by decide +kernel
theorem i_law_569 : pm_at q_law 569 = some (.ireturn, 1) := by decide +kernel
theorem i_law_570 : pm_at q_law 570 = some (.aload_n 1, 1) := by decide +kernel
theorem i_law_571 : pm_at q_law 571 = some (.aload_n 0, 1) := by decide +kernel
theorem i_law_572 : pm_at q_law 572 = some (.iload_n 3, 1) := by decide +kernel
theorem i_law_573 : pm_at q_law 573 = some (.iconst 1, 1) := by decide +kernel
theorem i_law_574 : pm_at q_law 574 = some (.iadd, 1) := by decide +kernel
theorem i_law_575 : pm_at q_law 575 = some (.iaload, 1) := by decide +kernel
theorem i_law_576 : pm_at q_law 576 = some (.invokevirtual 74, 3) := by decide +kernel
theorem i_law_579 : pm_at q_law 579 = some (.aload_n 2, 1) := by decide +kernel
theorem i_law_580 : pm_at q_law 580 = some (.aload_n 0, 1) := by decide +kernel
theorem i_law_581 : pm_at q_law 581 = some (.iload_n 3, 1) := by decide +kernel
theorem i_law_582 : pm_at q_law 582 = some (.iconst 1, 1) := by decide +kernel
theorem i_law_583 : pm_at q_law 583 = some (.iadd, 1) := by decide +kernel
theorem i_law_584 : pm_at q_law 584 = some (.iaload, 1) := by decide +kernel
theorem i_law_585 : pm_at q_law 585 = some (.invokevirtual 77, 3) := by decide +kernel
theorem i_law_588 : pm_at q_law 588 = some (.if_icmp .eq 567, 3) := by decide +kernel
theorem i_law_591 : pm_at q_law 591 = some (.iconst 0, 1) := by decide +kernel
theorem i_law_592 : pm_at q_law 592 = some (.ireturn, 1) := by decide +kernel
theorem i_law_593 : pm_at q_law 593 = some (.aload_n 1, 1) := by decide +kernel
theorem i_law_594 : pm_at q_law 594 = some (.aload_n 0, 1) := by decide +kernel
theorem i_law_595 : pm_at q_law 595 = some (.iload_n 3, 1) := by decide +kernel
theorem i_law_596 : pm_at q_law 596 = some (.iconst 1, 1) := by decide +kernel
theorem i_law_597 : pm_at q_law 597 = some (.iadd, 1) := by decide +kernel
theorem i_law_598 : pm_at q_law 598 = some (.iaload, 1) := by decide +kernel
theorem i_law_599 : pm_at q_law 599 = some (.invokevirtual 78, 3) := by decide +kernel
theorem i_law_602 : pm_at q_law 602 = some (.aload_n 2, 1) := by decide +kernel
theorem i_law_603 : pm_at q_law 603 = some (.aload_n 0, 1) := by decide +kernel
theorem i_law_604 : pm_at q_law 604 = some (.iload_n 3, 1) := by decide +kernel
theorem i_law_605 : pm_at q_law 605 = some (.iconst 1, 1) := by decide +kernel
theorem i_law_606 : pm_at q_law 606 = some (.iadd, 1) := by decide +kernel
theorem i_law_607 : pm_at q_law 607 = some (.iaload, 1) := by decide +kernel
theorem i_law_608 : pm_at q_law 608 = some (.invokevirtual 81, 3) := by decide +kernel
theorem i_law_611 : pm_at q_law 611 = some (.if_icmp .eq 544, 3) := by decide +kernel
theorem i_law_614 : pm_at q_law 614 = some (.iconst 0, 1) := by decide +kernel
theorem i_law_615 : pm_at q_law 615 = some (.ireturn, 1) := by decide +kernel
theorem i_law_616 : pm_at q_law 616 = some (.aload_n 1, 1) := by decide +kernel
theorem i_law_617 : pm_at q_law 617 = some (.aload_n 0, 1) := by decide +kernel
theorem i_law_618 : pm_at q_law 618 = some (.iload_n 3, 1) := by decide +kernel
theorem i_law_619 : pm_at q_law 619 = some (.iconst 1, 1) := by decide +kernel
theorem i_law_620 : pm_at q_law 620 = some (.iadd, 1) := by decide +kernel
theorem i_law_621 : pm_at q_law 621 = some (.iaload, 1) := by decide +kernel
theorem i_law_622 : pm_at q_law 622 = some (.aload_n 0, 1) := by decide +kernel
theorem i_law_623 : pm_at q_law 623 = some (.iload_n 3, 1) := by decide +kernel
theorem i_law_624 : pm_at q_law 624 = some (.iconst 2, 1) := by decide +kernel
theorem i_law_625 : pm_at q_law 625 = some (.iadd, 1) := by decide +kernel
theorem i_law_626 : pm_at q_law 626 = some (.iaload, 1) := by decide +kernel
theorem i_law_627 : pm_at q_law 627 = some (.invokevirtual 82, 3) := by decide +kernel
theorem i_law_630 : pm_at q_law 630 = some (.aload_n 2, 1) := by decide +kernel
theorem i_law_631 : pm_at q_law 631 = some (.aload_n 0, 1) := by decide +kernel
theorem i_law_632 : pm_at q_law 632 = some (.iload_n 3, 1) := by decide +kernel
theorem i_law_633 : pm_at q_law 633 = some (.iconst 1, 1) := by decide +kernel
theorem i_law_634 : pm_at q_law 634 = some (.iadd, 1) := by decide +kernel
theorem i_law_635 : pm_at q_law 635 = some (.iaload, 1) := by decide +kernel
theorem i_law_636 : pm_at q_law 636 = some (.aload_n 0, 1) := by decide +kernel
theorem i_law_637 : pm_at q_law 637 = some (.iload_n 3, 1) := by decide +kernel
theorem i_law_638 : pm_at q_law 638 = some (.iconst 2, 1) := by decide +kernel
theorem i_law_639 : pm_at q_law 639 = some (.iadd, 1) := by decide +kernel
theorem i_law_640 : pm_at q_law 640 = some (.iaload, 1) := by decide +kernel
theorem i_law_641 : pm_at q_law 641 = some (.invokevirtual 85, 3) := by decide +kernel
theorem i_law_644 : pm_at q_law 644 = some (.if_icmp .eq 511, 3) := by decide +kernel
theorem i_law_647 : pm_at q_law 647 = some (.iconst 0, 1) := by decide +kernel
theorem i_law_648 : pm_at q_law 648 = some (.ireturn, 1) := by decide +kernel
theorem i_law_649 : pm_at q_law 649 = some (.aload_n 1, 1) := by decide +kernel
theorem i_law_650 : pm_at q_law 650 = some (.aload_n 0, 1) := by decide +kernel
theorem i_law_651 : pm_at q_law 651 = some (.iload_n 3, 1) := by decide +kernel
theorem i_law_652 : pm_at q_law 652 = some (.iconst 1, 1) := by decide +kernel
theorem i_law_653 : pm_at q_law 653 = some (.iadd, 1) := by decide +kernel
theorem i_law_654 : pm_at q_law 654 = some (.iaload, 1) := by decide +kernel
theorem i_law_655 : pm_at q_law 655 = some (.aload_n 0, 1) := by decide +kernel
theorem i_law_656 : pm_at q_law 656 = some (.iload_n 3, 1) := by decide +kernel
theorem i_law_657 : pm_at q_law 657 = some (.iconst 2, 1) := by decide +kernel
theorem i_law_658 : pm_at q_law 658 = some (.iadd, 1) := by decide +kernel
theorem i_law_659 : pm_at q_law 659 = some (.iaload, 1) := by decide +kernel
theorem i_law_660 : pm_at q_law 660 = some (.aload_n 0, 1) := by decide +kernel
theorem i_law_661 : pm_at q_law 661 = some (.iload_n 3, 1) := by decide +kernel
theorem i_law_662 : pm_at q_law 662 = some (.iconst 3, 1) := by decide +kernel
theorem i_law_663 : pm_at q_law 663 = some (.iadd, 1) := by decide +kernel
theorem i_law_664 : pm_at q_law 664 = some (.iaload, 1) := by decide +kernel
theorem i_law_665 : pm_at q_law 665 = some (.invokevirtual 86, 3) := by decide +kernel
theorem i_law_668 : pm_at q_law 668 = some (.aload_n 2, 1) := by decide +kernel
theorem i_law_669 : pm_at q_law 669 = some (.aload_n 0, 1) := by decide +kernel
theorem i_law_670 : pm_at q_law 670 = some (.iload_n 3, 1) := by decide +kernel
theorem i_law_671 : pm_at q_law 671 = some (.iconst 1, 1) := by decide +kernel
theorem i_law_672 : pm_at q_law 672 = some (.iadd, 1) := by decide +kernel
theorem i_law_673 : pm_at q_law 673 = some (.iaload, 1) := by decide +kernel
theorem i_law_674 : pm_at q_law 674 = some (.aload_n 0, 1) := by decide +kernel
theorem i_law_675 : pm_at q_law 675 = some (.iload_n 3, 1) := by decide +kernel
theorem i_law_676 : pm_at q_law 676 = some (.iconst 2, 1) := by decide +kernel
theorem i_law_677 : pm_at q_law 677 = some (.iadd, 1) := by decide +kernel
theorem i_law_678 : pm_at q_law 678 = some (.iaload, 1) := by decide +kernel
theorem i_law_679 : pm_at q_law 679 = some (.aload_n 0, 1) := by decide +kernel
theorem i_law_680 : pm_at q_law 680 = some (.iload_n 3, 1) := by decide +kernel
theorem i_law_681 : pm_at q_law 681 = some (.iconst 3, 1) := by decide +kernel
theorem i_law_682 : pm_at q_law 682 = some (.iadd, 1) := by decide +kernel
theorem i_law_683 : pm_at q_law 683 = some (.iaload, 1) := by decide +kernel
theorem i_law_684 : pm_at q_law 684 = some (.invokevirtual 89, 3) := by decide +kernel
theorem i_law_687 : pm_at q_law 687 = some (.if_icmp .eq 468, 3) := by decide +kernel
theorem i_law_690 : pm_at q_law 690 = some (.iconst 0, 1) := by decide +kernel
theorem i_law_691 : pm_at q_law 691 = some (.ireturn, 1) := by decide +kernel
theorem i_law_692 : pm_at q_law 692 = some (.aload_n 1, 1) := by decide +kernel
theorem i_law_693 : pm_at q_law 693 = some (.invokevirtual 90, 3) := by decide +kernel
theorem i_law_696 : pm_at q_law 696 = some (.aload_n 2, 1) := by decide +kernel
theorem i_law_697 : pm_at q_law 697 = some (.invokevirtual 93, 3) := by decide +kernel
theorem i_law_700 : pm_at q_law 700 = some (.if_icmp .eq 455, 3) := by decide +kernel
theorem i_law_703 : pm_at q_law 703 = some (.iconst 0, 1) := by decide +kernel
theorem i_law_704 : pm_at q_law 704 = some (.ireturn, 1) := by decide +kernel
theorem i_law_705 : pm_at q_law 705 = some (.aload_n 1, 1) := by decide +kernel
theorem i_law_706 : pm_at q_law 706 = some (.aload_n 0, 1) := by decide +kernel
theorem i_law_707 : pm_at q_law 707 = some (.iload_n 3, 1) := by decide +kernel
theorem i_law_708 : pm_at q_law 708 = some (.iconst 1, 1) := by decide +kernel
theorem i_law_709 : pm_at q_law 709 = some (.iadd, 1) := by decide +kernel
theorem i_law_710 : pm_at q_law 710 = some (.iaload, 1) := by decide +kernel
theorem i_law_711 : pm_at q_law 711 = some (.aload_n 0, 1) := by decide +kernel
theorem i_law_712 : pm_at q_law 712 = some (.iload_n 3, 1) := by decide +kernel
theorem i_law_713 : pm_at q_law 713 = some (.iconst 2, 1) := by decide +kernel
theorem i_law_714 : pm_at q_law 714 = some (.iadd, 1) := by decide +kernel
theorem i_law_715 : pm_at q_law 715 = some (.iaload, 1) := by decide +kernel
theorem i_law_716 : pm_at q_law 716 = some (.invokevirtual 94, 3) := by decide +kernel
theorem i_law_719 : pm_at q_law 719 = some (.aload_n 2, 1) := by decide +kernel
theorem i_law_720 : pm_at q_law 720 = some (.aload_n 0, 1) := by decide +kernel
theorem i_law_721 : pm_at q_law 721 = some (.iload_n 3, 1) := by decide +kernel
theorem i_law_722 : pm_at q_law 722 = some (.iconst 1, 1) := by decide +kernel
theorem i_law_723 : pm_at q_law 723 = some (.iadd, 1) := by decide +kernel
theorem i_law_724 : pm_at q_law 724 = some (.iaload, 1) := by decide +kernel
theorem i_law_725 : pm_at q_law 725 = some (.aload_n 0, 1) := by decide +kernel
theorem i_law_726 : pm_at q_law 726 = some (.iload_n 3, 1) := by decide +kernel
theorem i_law_727 : pm_at q_law 727 = some (.iconst 2, 1) := by decide +kernel
theorem i_law_728 : pm_at q_law 728 = some (.iadd, 1) := by decide +kernel
theorem i_law_729 : pm_at q_law 729 = some (.iaload, 1) := by decide +kernel
theorem i_law_730 : pm_at q_law 730 = some (.invokevirtual 97, 3) := by decide +kernel
theorem i_law_733 : pm_at q_law 733 = some (.if_icmp .eq 422, 3) := by decide +kernel
theorem i_law_736 : pm_at q_law 736 = some (.iconst 0, 1) := by decide +kernel
theorem i_law_737 : pm_at q_law 737 = some (.ireturn, 1) := by decide +kernel
theorem i_law_738 : pm_at q_law 738 = some (.aload_n 1, 1) := by decide +kernel
theorem i_law_739 : pm_at q_law 739 = some (.aload_n 0, 1) := by decide +kernel
theorem i_law_740 : pm_at q_law 740 = some (.iload_n 3, 1) := by decide +kernel
theorem i_law_741 : pm_at q_law 741 = some (.iconst 1, 1) := by decide +kernel
theorem i_law_742 : pm_at q_law 742 = some (.iadd, 1) := by decide +kernel
theorem i_law_743 : pm_at q_law 743 = some (.iaload, 1) := by decide +kernel
theorem i_law_744 : pm_at q_law 744 = some (.aload_n 0, 1) := by decide +kernel
theorem i_law_745 : pm_at q_law 745 = some (.iload_n 3, 1) := by decide +kernel
theorem i_law_746 : pm_at q_law 746 = some (.iconst 2, 1) := by decide +kernel
theorem i_law_747 : pm_at q_law 747 = some (.iadd, 1) := by decide +kernel
theorem i_law_748 : pm_at q_law 748 = some (.iaload, 1) := by decide +kernel
theorem i_law_749 : pm_at q_law 749 = some (.aload_n 0, 1) := by decide +kernel
theorem i_law_750 : pm_at q_law 750 = some (.iload_n 3, 1) := by decide +kernel
theorem i_law_751 : pm_at q_law 751 = some (.iconst 3, 1) := by decide +kernel
theorem i_law_752 : pm_at q_law 752 = some (.iadd, 1) := by decide +kernel
theorem i_law_753 : pm_at q_law 753 = some (.iaload, 1) := by decide +kernel
theorem i_law_754 : pm_at q_law 754 = some (.aload_n 0, 1) := by decide +kernel
theorem i_law_755 : pm_at q_law 755 = some (.iload_n 3, 1) := by decide +kernel
theorem i_law_756 : pm_at q_law 756 = some (.iconst 4, 1) := by decide +kernel
theorem i_law_757 : pm_at q_law 757 = some (.iadd, 1) := by decide +kernel
theorem i_law_758 : pm_at q_law 758 = some (.iaload, 1) := by decide +kernel
theorem i_law_759 : pm_at q_law 759 = some (.aload_n 0, 1) := by decide +kernel
theorem i_law_760 : pm_at q_law 760 = some (.iload_n 3, 1) := by decide +kernel
theorem i_law_761 : pm_at q_law 761 = some (.iconst 5, 1) := by decide +kernel
theorem i_law_762 : pm_at q_law 762 = some (.iadd, 1) := by decide +kernel
theorem i_law_763 : pm_at q_law 763 = some (.iaload, 1) := by decide +kernel
theorem i_law_764 : pm_at q_law 764 = some (.invokevirtual 98, 3) := by decide +kernel
theorem i_law_767 : pm_at q_law 767 = some (.aload_n 2, 1) := by decide +kernel
theorem i_law_768 : pm_at q_law 768 = some (.aload_n 0, 1) := by decide +kernel
theorem i_law_769 : pm_at q_law 769 = some (.iload_n 3, 1) := by decide +kernel
theorem i_law_770 : pm_at q_law 770 = some (.iconst 1, 1) := by decide +kernel
theorem i_law_771 : pm_at q_law 771 = some (.iadd, 1) := by decide +kernel
theorem i_law_772 : pm_at q_law 772 = some (.iaload, 1) := by decide +kernel
theorem i_law_773 : pm_at q_law 773 = some (.aload_n 0, 1) := by decide +kernel
theorem i_law_774 : pm_at q_law 774 = some (.iload_n 3, 1) := by decide +kernel
theorem i_law_775 : pm_at q_law 775 = some (.iconst 2, 1) := by decide +kernel
theorem i_law_776 : pm_at q_law 776 = some (.iadd, 1) := by decide +kernel
theorem i_law_777 : pm_at q_law 777 = some (.iaload, 1) := by decide +kernel
theorem i_law_778 : pm_at q_law 778 = some (.aload_n 0, 1) := by decide +kernel
theorem i_law_779 : pm_at q_law 779 = some (.iload_n 3, 1) := by decide +kernel
theorem i_law_780 : pm_at q_law 780 = some (.iconst 3, 1) := by decide +kernel
theorem i_law_781 : pm_at q_law 781 = some (.iadd, 1) := by decide +kernel
theorem i_law_782 : pm_at q_law 782 = some (.iaload, 1) := by decide +kernel
theorem i_law_783 : pm_at q_law 783 = some (.aload_n 0, 1) := by decide +kernel
theorem i_law_784 : pm_at q_law 784 = some (.iload_n 3, 1) := by decide +kernel
theorem i_law_785 : pm_at q_law 785 = some (.iconst 4, 1) := by decide +kernel
theorem i_law_786 : pm_at q_law 786 = some (.iadd, 1) := by decide +kernel
theorem i_law_787 : pm_at q_law 787 = some (.iaload, 1) := by decide +kernel
theorem i_law_788 : pm_at q_law 788 = some (.aload_n 0, 1) := by decide +kernel
theorem i_law_789 : pm_at q_law 789 = some (.iload_n 3, 1) := by decide +kernel
theorem i_law_790 : pm_at q_law 790 = some (.iconst 5, 1) := by decide +kernel
theorem i_law_791 : pm_at q_law 791 = some (.iadd, 1) := by decide +kernel
theorem i_law_792 : pm_at q_law 792 = some (.iaload, 1) := by decide +kernel
theorem i_law_793 : pm_at q_law 793 = some (.invokevirtual 101, 3) := by decide +kernel
theorem i_law_796 : pm_at q_law 796 = some (.if_icmp .eq 359, 3) := by decide +kernel
theorem i_law_799 : pm_at q_law 799 = some (.iconst 0, 1) := by decide +kernel
theorem i_law_800 : pm_at q_law 800 = some (.ireturn, 1) := by decide +kernel
theorem i_law_801 : pm_at q_law 801 = some (.aload_n 1, 1) := by decide +kernel
theorem i_law_802 : pm_at q_law 802 = some (.aload_n 0, 1) := by decide +kernel
theorem i_law_803 : pm_at q_law 803 = some (.iload_n 3, 1) := by decide +kernel
theorem i_law_804 : pm_at q_law 804 = some (.iconst 1, 1) := by decide +kernel
theorem i_law_805 : pm_at q_law 805 = some (.iadd, 1) := by decide +kernel
theorem i_law_806 : pm_at q_law 806 = some (.iaload, 1) := by decide +kernel
theorem i_law_807 : pm_at q_law 807 = some (.aload_n 0, 1) := by decide +kernel
theorem i_law_808 : pm_at q_law 808 = some (.iload_n 3, 1) := by decide +kernel
theorem i_law_809 : pm_at q_law 809 = some (.iconst 2, 1) := by decide +kernel
theorem i_law_810 : pm_at q_law 810 = some (.iadd, 1) := by decide +kernel
theorem i_law_811 : pm_at q_law 811 = some (.iaload, 1) := by decide +kernel
theorem i_law_812 : pm_at q_law 812 = some (.invokevirtual 102, 3) := by decide +kernel
theorem i_law_815 : pm_at q_law 815 = some (.aload_n 2, 1) := by decide +kernel
theorem i_law_816 : pm_at q_law 816 = some (.aload_n 0, 1) := by decide +kernel
theorem i_law_817 : pm_at q_law 817 = some (.iload_n 3, 1) := by decide +kernel
theorem i_law_818 : pm_at q_law 818 = some (.iconst 1, 1) := by decide +kernel
theorem i_law_819 : pm_at q_law 819 = some (.iadd, 1) := by decide +kernel
theorem i_law_820 : pm_at q_law 820 = some (.iaload, 1) := by decide +kernel
theorem i_law_821 : pm_at q_law 821 = some (.aload_n 0, 1) := by decide +kernel
theorem i_law_822 : pm_at q_law 822 = some (.iload_n 3, 1) := by decide +kernel
theorem i_law_823 : pm_at q_law 823 = some (.iconst 2, 1) := by decide +kernel
theorem i_law_824 : pm_at q_law 824 = some (.iadd, 1) := by decide +kernel
theorem i_law_825 : pm_at q_law 825 = some (.iaload, 1) := by decide +kernel
theorem i_law_826 : pm_at q_law 826 = some (.invokevirtual 105, 3) := by decide +kernel
theorem i_law_829 : pm_at q_law 829 = some (.if_icmp .eq 326, 3) := by decide +kernel
theorem i_law_832 : pm_at q_law 832 = some (.iconst 0, 1) := by decide +kernel
theorem i_law_833 : pm_at q_law 833 = some (.ireturn, 1) := by decide +kernel
theorem i_law_834 : pm_at q_law 834 = some (.aload_n 1, 1) := by decide +kernel
theorem i_law_835 : pm_at q_law 835 = some (.aload_n 0, 1) := by decide +kernel
theorem i_law_836 : pm_at q_law 836 = some (.iload_n 3, 1) := by decide +kernel
theorem i_law_837 : pm_at q_law 837 = some (.iconst 1, 1) := by decide +kernel
theorem i_law_838 : pm_at q_law 838 = some (.iadd, 1) := by decide +kernel
theorem i_law_839 : pm_at q_law 839 = some (.iaload, 1) := by decide +kernel
theorem i_law_840 : pm_at q_law 840 = some (.invokevirtual 106, 3) := by decide +kernel
theorem i_law_843 : pm_at q_law 843 = some (.aload_n 2, 1) := by decide +kernel
theorem i_law_844 : pm_at q_law 844 = some (.aload_n 0, 1) := by decide +kernel
theorem i_law_845 : pm_at q_law 845 = some (.iload_n 3, 1) := by decide +kernel
theorem i_law_846 : pm_at q_law 846 = some (.iconst 1, 1) := by decide +kernel
theorem i_law_847 : pm_at q_law 847 = some (.iadd, 1) := by decide +kernel
theorem i_law_848 : pm_at q_law 848 = some (.iaload, 1) := by decide +kernel
theorem i_law_849 : pm_at q_law 849 = some (.invokevirtual 109, 3) := by decide +kernel
theorem i_law_852 : pm_at q_law 852 = some (.if_icmp .eq 303, 3) := by decide +kernel
theorem i_law_855 : pm_at q_law 855 = some (.iconst 0, 1) := by decide +kernel
theorem i_law_856 : pm_at q_law 856 = some (.ireturn, 1) := by decide +kernel
theorem i_law_857 : pm_at q_law 857 = some (.aload_n 1, 1) := by decide +kernel
theorem i_law_858 : pm_at q_law 858 = some (.aload_n 0, 1) := by decide +kernel
theorem i_law_859 : pm_at q_law 859 = some (.iload_n 3, 1) := by decide +kernel
theorem i_law_860 : pm_at q_law 860 = some (.iconst 1, 1) := by decide +kernel
theorem i_law_861 : pm_at q_law 861 = some (.iadd, 1) := by decide +kernel
theorem i_law_862 : pm_at q_law 862 = some (.iaload, 1) := by decide +kernel
theorem i_law_863 : pm_at q_law 863 = some (.invokevirtual 110, 3) := by decide +kernel
theorem i_law_866 : pm_at q_law 866 = some (.aload_n 2, 1) := by decide +kernel
theorem i_law_867 : pm_at q_law 867 = some (.aload_n 0, 1) := by decide +kernel
theorem i_law_868 : pm_at q_law 868 = some (.iload_n 3, 1) := by decide +kernel
theorem i_law_869 : pm_at q_law 869 = some (.iconst 1, 1) := by decide +kernel
theorem i_law_870 : pm_at q_law 870 = some (.iadd, 1) := by decide +kernel
theorem i_law_871 : pm_at q_law 871 = some (.iaload, 1) := by decide +kernel
theorem i_law_872 : pm_at q_law 872 = some (.invokevirtual 113, 3) := by decide +kernel
theorem i_law_875 : pm_at q_law 875 = some (.if_icmp .eq 280, 3) := by decide +kernel
theorem i_law_878 : pm_at q_law 878 = some (.iconst 0, 1) := by decide +kernel
theorem i_law_879 : pm_at q_law 879 = some (.ireturn, 1) := by decide +kernel
theorem i_law_880 : pm_at q_law 880 = some (.aload_n 1, 1) := by decide +kernel
theorem i_law_881 : pm_at q_law 881 = some (.aload_n 0, 1) := by decide +kernel
theorem i_law_882 : pm_at q_law 882 = some (.iload_n 3, 1) := by decide +kernel
theorem i_law_883 : pm_at q_law 883 = some (.iconst 1, 1) := by decide +kernel
theorem i_law_884 : pm_at q_law 884 = some (.iadd, 1) := by decide +kernel
theorem i_law_885 : pm_at q_law 885 = some (.iaload, 1) := by decide +kernel
theorem i_law_886 : pm_at q_law 886 = some (.invokevirtual 114, 3) := by decide +kernel
theorem i_law_889 : pm_at q_law 889 = some (.aload_n 2, 1) := by decide +kernel
theorem i_law_890 : pm_at q_law 890 = some (.aload_n 0, 1) := by decide +kernel
theorem i_law_891 : pm_at q_law 891 = some (.iload_n 3, 1) := by decide +kernel
theorem i_law_892 : pm_at q_law 892 = some (.iconst 1, 1) := by decide +kernel
theorem i_law_893 : pm_at q_law 893 = some (.iadd, 1) := by decide +kernel
theorem i_law_894 : pm_at q_law 894 = some (.iaload, 1) := by decide +kernel
theorem i_law_895 : pm_at q_law 895 = some (.invokevirtual 117, 3) := by decide +kernel
theorem i_law_898 : pm_at q_law 898 = some (.if_icmp .eq 257, 3) := by decide +kernel
theorem i_law_901 : pm_at q_law 901 = some (.iconst 0, 1) := by decide +kernel
theorem i_law_902 : pm_at q_law 902 = some (.ireturn, 1) := by decide +kernel
theorem i_law_903 : pm_at q_law 903 = some (.aload_n 1, 1) := by decide +kernel
theorem i_law_904 : pm_at q_law 904 = some (.aload_n 0, 1) := by decide +kernel
theorem i_law_905 : pm_at q_law 905 = some (.iload_n 3, 1) := by decide +kernel
theorem i_law_906 : pm_at q_law 906 = some (.iconst 1, 1) := by decide +kernel
theorem i_law_907 : pm_at q_law 907 = some (.iadd, 1) := by decide +kernel
theorem i_law_908 : pm_at q_law 908 = some (.iaload, 1) := by decide +kernel
theorem i_law_909 : pm_at q_law 909 = some (.aload_n 0, 1) := by decide +kernel
theorem i_law_910 : pm_at q_law 910 = some (.iload_n 3, 1) := by decide +kernel
theorem i_law_911 : pm_at q_law 911 = some (.iconst 2, 1) := by decide +kernel
theorem i_law_912 : pm_at q_law 912 = some (.iadd, 1) := by decide +kernel
theorem i_law_913 : pm_at q_law 913 = some (.iaload, 1) := by decide +kernel
theorem i_law_914 : pm_at q_law 914 = some (.invokevirtual 118, 3) := by decide +kernel
theorem i_law_917 : pm_at q_law 917 = some (.aload_n 2, 1) := by decide +kernel
theorem i_law_918 : pm_at q_law 918 = some (.aload_n 0, 1) := by decide +kernel
theorem i_law_919 : pm_at q_law 919 = some (.iload_n 3, 1) := by decide +kernel
theorem i_law_920 : pm_at q_law 920 = some (.iconst 1, 1) := by decide +kernel
theorem i_law_921 : pm_at q_law 921 = some (.iadd, 1) := by decide +kernel
theorem i_law_922 : pm_at q_law 922 = some (.iaload, 1) := by decide +kernel
theorem i_law_923 : pm_at q_law 923 = some (.aload_n 0, 1) := by decide +kernel
theorem i_law_924 : pm_at q_law 924 = some (.iload_n 3, 1) := by decide +kernel
theorem i_law_925 : pm_at q_law 925 = some (.iconst 2, 1) := by decide +kernel
theorem i_law_926 : pm_at q_law 926 = some (.iadd, 1) := by decide +kernel
theorem i_law_927 : pm_at q_law 927 = some (.iaload, 1) := by decide +kernel
theorem i_law_928 : pm_at q_law 928 = some (.invokevirtual 121, 3) := by decide +kernel
theorem i_law_931 : pm_at q_law 931 = some (.if_icmp .eq 224, 3) := by decide +kernel
theorem i_law_934 : pm_at q_law 934 = some (.iconst 0, 1) := by decide +kernel
theorem i_law_935 : pm_at q_law 935 = some (.ireturn, 1) := by decide +kernel
theorem i_law_936 : pm_at q_law 936 = some (.aload_n 1, 1) := by decide +kernel
theorem i_law_937 : pm_at q_law 937 = some (.aload_n 0, 1) := by decide +kernel
theorem i_law_938 : pm_at q_law 938 = some (.iload_n 3, 1) := by decide +kernel
theorem i_law_939 : pm_at q_law 939 = some (.iconst 1, 1) := by decide +kernel
theorem i_law_940 : pm_at q_law 940 = some (.iadd, 1) := by decide +kernel
theorem i_law_941 : pm_at q_law 941 = some (.iaload, 1) := by decide +kernel
theorem i_law_942 : pm_at q_law 942 = some (.invokevirtual 122, 3) := by decide +kernel
theorem i_law_945 : pm_at q_law 945 = some (.aload_n 2, 1) := by decide +kernel
theorem i_law_946 : pm_at q_law 946 = some (.aload_n 0, 1) := by decide +kernel
theorem i_law_947 : pm_at q_law 947 = some (.iload_n 3, 1) := by decide +kernel
theorem i_law_948 : pm_at q_law 948 = some (.iconst 1, 1) := by decide +kernel
theorem i_law_949 : pm_at q_law 949 = some (.iadd, 1) := by decide +kernel
theorem i_law_950 : pm_at q_law 950 = some (.iaload, 1) := by decide +kernel
theorem i_law_951 : pm_at q_law 951 = some (.invokevirtual 125, 3) := by decide +kernel
theorem i_law_954 : pm_at q_law 954 = some (.if_icmp .eq 201, 3) := by decide +kernel
theorem i_law_957 : pm_at q_law 957 = some (.iconst 0, 1) := by decide +kernel
theorem i_law_958 : pm_at q_law 958 = some (.ireturn, 1) := by decide +kernel
theorem i_law_959 : pm_at q_law 959 = some (.aload_n 1, 1) := by decide +kernel
theorem i_law_960 : pm_at q_law 960 = some (.aload_n 0, 1) := by decide +kernel
theorem i_law_961 : pm_at q_law 961 = some (.iload_n 3, 1) := by decide +kernel
theorem i_law_962 : pm_at q_law 962 = some (.iconst 1, 1) := by decide +kernel
theorem i_law_963 : pm_at q_law 963 = some (.iadd, 1) := by decide +kernel
theorem i_law_964 : pm_at q_law 964 = some (.iaload, 1) := by decide +kernel
theorem i_law_965 : pm_at q_law 965 = some (.aload_n 0, 1) := by decide +kernel
theorem i_law_966 : pm_at q_law 966 = some (.iload_n 3, 1) := by decide +kernel
theorem i_law_967 : pm_at q_law 967 = some (.iconst 2, 1) := by decide +kernel
theorem i_law_968 : pm_at q_law 968 = some (.iadd, 1) := by decide +kernel
theorem i_law_969 : pm_at q_law 969 = some (.iaload, 1) := by decide +kernel
theorem i_law_970 : pm_at q_law 970 = some (.invokevirtual 126, 3) := by decide +kernel
theorem i_law_973 : pm_at q_law 973 = some (.aload_n 2, 1) := by decide +kernel
theorem i_law_974 : pm_at q_law 974 = some (.aload_n 0, 1) := by decide +kernel
theorem i_law_975 : pm_at q_law 975 = some (.iload_n 3, 1) := by decide +kernel
theorem i_law_976 : pm_at q_law 976 = some (.iconst 1, 1) := by decide +kernel
theorem i_law_977 : pm_at q_law 977 = some (.iadd, 1) := by decide +kernel
theorem i_law_978 : pm_at q_law 978 = some (.iaload, 1) := by decide +kernel
theorem i_law_979 : pm_at q_law 979 = some (.aload_n 0, 1) := by decide +kernel
theorem i_law_980 : pm_at q_law 980 = some (.iload_n 3, 1) := by decide +kernel
theorem i_law_981 : pm_at q_law 981 = some (.iconst 2, 1) := by decide +kernel
theorem i_law_982 : pm_at q_law 982 = some (.iadd, 1) := by decide +kernel
theorem i_law_983 : pm_at q_law 983 = some (.iaload, 1) := by decide +kernel
theorem i_law_984 : pm_at q_law 984 = some (.invokevirtual 129, 3) := by decide +kernel
theorem i_law_987 : pm_at q_law 987 = some (.if_icmp .eq 168, 3) := by decide +kernel
theorem i_law_990 : pm_at q_law 990 = some (.iconst 0, 1) := by decide +kernel
theorem i_law_991 : pm_at q_law 991 = some (.ireturn, 1) := by decide +kernel
theorem i_law_992 : pm_at q_law 992 = some (.aload_n 1, 1) := by decide +kernel
theorem i_law_993 : pm_at q_law 993 = some (.aload_n 0, 1) := by decide +kernel
theorem i_law_994 : pm_at q_law 994 = some (.iload_n 3, 1) := by decide +kernel
theorem i_law_995 : pm_at q_law 995 = some (.iconst 1, 1) := by decide +kernel
theorem i_law_996 : pm_at q_law 996 = some (.iadd, 1) := by decide +kernel
theorem i_law_997 : pm_at q_law 997 = some (.iaload, 1) := by decide +kernel
theorem i_law_998 : pm_at q_law 998 = some (.aload_n 0, 1) := by decide +kernel
theorem i_law_999 : pm_at q_law 999 = some (.iload_n 3, 1) := by decide +kernel
theorem i_law_1000 : pm_at q_law 1000 = some (.iconst 2, 1) := by decide +kernel
theorem i_law_1001 : pm_at q_law 1001 = some (.iadd, 1) := by decide +kernel
theorem i_law_1002 : pm_at q_law 1002 = some (.iaload, 1) := by decide +kernel
theorem i_law_1003 : pm_at q_law 1003 = some (.invokevirtual 130, 3) := by decide +kernel
theorem i_law_1006 : pm_at q_law 1006 = some (.aload_n 2, 1) := by decide +kernel
theorem i_law_1007 : pm_at q_law 1007 = some (.aload_n 0, 1) := by decide +kernel
theorem i_law_1008 : pm_at q_law 1008 = some (.iload_n 3, 1) := by decide +kernel
theorem i_law_1009 : pm_at q_law 1009 = some (.iconst 1, 1) := by decide +kernel
theorem i_law_1010 : pm_at q_law 1010 = some (.iadd, 1) := by decide +kernel
theorem i_law_1011 : pm_at q_law 1011 = some (.iaload, 1) := by decide +kernel
theorem i_law_1012 : pm_at q_law 1012 = some (.aload_n 0, 1) := by decide +kernel
theorem i_law_1013 : pm_at q_law 1013 = some (.iload_n 3, 1) := by decide +kernel
theorem i_law_1014 : pm_at q_law 1014 = some (.iconst 2, 1) := by decide +kernel
theorem i_law_1015 : pm_at q_law 1015 = some (.iadd, 1) := by decide +kernel
theorem i_law_1016 : pm_at q_law 1016 = some (.iaload, 1) := by decide +kernel
theorem i_law_1017 : pm_at q_law 1017 = some (.invokevirtual 133, 3) := by decide +kernel
theorem i_law_1020 : pm_at q_law 1020 = some (.if_icmp .eq 135, 3) := by decide +kernel
theorem i_law_1023 : pm_at q_law 1023 = some (.iconst 0, 1) := by decide +kernel
theorem i_law_1024 : pm_at q_law 1024 = some (.ireturn, 1) := by decide +kernel
theorem i_law_1025 : pm_at q_law 1025 = some (.aload_n 1, 1) := by decide +kernel
theorem i_law_1026 : pm_at q_law 1026 = some (.aload_n 0, 1) := by decide +kernel
theorem i_law_1027 : pm_at q_law 1027 = some (.iload_n 3, 1) := by decide +kernel
theorem i_law_1028 : pm_at q_law 1028 = some (.iconst 1, 1) := by decide +kernel
theorem i_law_1029 : pm_at q_law 1029 = some (.iadd, 1) := by decide +kernel
theorem i_law_1030 : pm_at q_law 1030 = some (.iaload, 1) := by decide +kernel
theorem i_law_1031 : pm_at q_law 1031 = some (.invokevirtual 134, 3) := by decide +kernel
theorem i_law_1034 : pm_at q_law 1034 = some (.aload_n 2, 1) := by decide +kernel
theorem i_law_1035 : pm_at q_law 1035 = some (.aload_n 0, 1) := by decide +kernel
theorem i_law_1036 : pm_at q_law 1036 = some (.iload_n 3, 1) := by decide +kernel
theorem i_law_1037 : pm_at q_law 1037 = some (.iconst 1, 1) := by decide +kernel
theorem i_law_1038 : pm_at q_law 1038 = some (.iadd, 1) := by decide +kernel
theorem i_law_1039 : pm_at q_law 1039 = some (.iaload, 1) := by decide +kernel
theorem i_law_1040 : pm_at q_law 1040 = some (.invokevirtual 138, 3) := by decide +kernel
theorem i_law_1043 : pm_at q_law 1043 = some (.lcmp, 1) := by decide +kernel
theorem i_law_1044 : pm_at q_law 1044 = some (.ifCond .eq 111, 3) := by decide +kernel
theorem i_law_1047 : pm_at q_law 1047 = some (.iconst 0, 1) := by decide +kernel
theorem i_law_1048 : pm_at q_law 1048 = some (.ireturn, 1) := by decide +kernel
theorem i_law_1049 : pm_at q_law 1049 = some (.aload_n 1, 1) := by decide +kernel
theorem i_law_1050 : pm_at q_law 1050 = some (.aload_n 0, 1) := by decide +kernel
theorem i_law_1051 : pm_at q_law 1051 = some (.iload_n 3, 1) := by decide +kernel
theorem i_law_1052 : pm_at q_law 1052 = some (.iconst 1, 1) := by decide +kernel
theorem i_law_1053 : pm_at q_law 1053 = some (.iadd, 1) := by decide +kernel
theorem i_law_1054 : pm_at q_law 1054 = some (.iaload, 1) := by decide +kernel
theorem i_law_1055 : pm_at q_law 1055 = some (.invokevirtual 139, 3) := by decide +kernel
theorem i_law_1058 : pm_at q_law 1058 = some (.aload_n 2, 1) := by decide +kernel
theorem i_law_1059 : pm_at q_law 1059 = some (.aload_n 0, 1) := by decide +kernel
theorem i_law_1060 : pm_at q_law 1060 = some (.iload_n 3, 1) := by decide +kernel
theorem i_law_1061 : pm_at q_law 1061 = some (.iconst 1, 1) := by decide +kernel
theorem i_law_1062 : pm_at q_law 1062 = some (.iadd, 1) := by decide +kernel
theorem i_law_1063 : pm_at q_law 1063 = some (.iaload, 1) := by decide +kernel
theorem i_law_1064 : pm_at q_law 1064 = some (.invokevirtual 142, 3) := by decide +kernel
theorem i_law_1067 : pm_at q_law 1067 = some (.if_icmp .eq 88, 3) := by decide +kernel
theorem i_law_1070 : pm_at q_law 1070 = some (.iconst 0, 1) := by decide +kernel
theorem i_law_1071 : pm_at q_law 1071 = some (.ireturn, 1) := by decide +kernel
theorem i_law_1072 : pm_at q_law 1072 = some (.aload_n 1, 1) := by decide +kernel
theorem i_law_1073 : pm_at q_law 1073 = some (.aload_n 0, 1) := by decide +kernel
theorem i_law_1074 : pm_at q_law 1074 = some (.iload_n 3, 1) := by decide +kernel
theorem i_law_1075 : pm_at q_law 1075 = some (.iconst 1, 1) := by decide +kernel
theorem i_law_1076 : pm_at q_law 1076 = some (.iadd, 1) := by decide +kernel
theorem i_law_1077 : pm_at q_law 1077 = some (.iaload, 1) := by decide +kernel
theorem i_law_1078 : pm_at q_law 1078 = some (.invokevirtual 143, 3) := by decide +kernel
theorem i_law_1081 : pm_at q_law 1081 = some (.aload_n 2, 1) := by decide +kernel
theorem i_law_1082 : pm_at q_law 1082 = some (.aload_n 0, 1) := by decide +kernel
theorem i_law_1083 : pm_at q_law 1083 = some (.iload_n 3, 1) := by decide +kernel
theorem i_law_1084 : pm_at q_law 1084 = some (.iconst 1, 1) := by decide +kernel
theorem i_law_1085 : pm_at q_law 1085 = some (.iadd, 1) := by decide +kernel
theorem i_law_1086 : pm_at q_law 1086 = some (.iaload, 1) := by decide +kernel
theorem i_law_1087 : pm_at q_law 1087 = some (.invokevirtual 146, 3) := by decide +kernel
theorem i_law_1090 : pm_at q_law 1090 = some (.if_icmp .eq 65, 3) := by decide +kernel
theorem i_law_1093 : pm_at q_law 1093 = some (.iconst 0, 1) := by decide +kernel
theorem i_law_1094 : pm_at q_law 1094 = some (.ireturn, 1) := by decide +kernel
theorem i_law_1095 : pm_at q_law 1095 = some (.aload_n 1, 1) := by decide +kernel
theorem i_law_1096 : pm_at q_law 1096 = some (.aload_n 0, 1) := by decide +kernel
theorem i_law_1097 : pm_at q_law 1097 = some (.iload_n 3, 1) := by decide +kernel
theorem i_law_1098 : pm_at q_law 1098 = some (.iconst 1, 1) := by decide +kernel
theorem i_law_1099 : pm_at q_law 1099 = some (.iadd, 1) := by decide +kernel
theorem i_law_1100 : pm_at q_law 1100 = some (.iaload, 1) := by decide +kernel
theorem i_law_1101 : pm_at q_law 1101 = some (.invokevirtual 147, 3) := by decide +kernel
theorem i_law_1104 : pm_at q_law 1104 = some (.aload_n 2, 1) := by decide +kernel
theorem i_law_1105 : pm_at q_law 1105 = some (.aload_n 0, 1) := by decide +kernel
theorem i_law_1106 : pm_at q_law 1106 = some (.iload_n 3, 1) := by decide +kernel
theorem i_law_1107 : pm_at q_law 1107 = some (.iconst 1, 1) := by decide +kernel
theorem i_law_1108 : pm_at q_law 1108 = some (.iadd, 1) := by decide +kernel
theorem i_law_1109 : pm_at q_law 1109 = some (.iaload, 1) := by decide +kernel
theorem i_law_1110 : pm_at q_law 1110 = some (.invokevirtual 150, 3) := by decide +kernel
theorem i_law_1113 : pm_at q_law 1113 = some (.if_icmp .eq 42, 3) := by decide +kernel
theorem i_law_1116 : pm_at q_law 1116 = some (.iconst 0, 1) := by decide +kernel
theorem i_law_1117 : pm_at q_law 1117 = some (.ireturn, 1) := by decide +kernel
theorem i_law_1118 : pm_at q_law 1118 = some (.aload_n 1, 1) := by decide +kernel
theorem i_law_1119 : pm_at q_law 1119 = some (.aload_n 0, 1) := by decide +kernel
theorem i_law_1120 : pm_at q_law 1120 = some (.iload_n 3, 1) := by decide +kernel
theorem i_law_1121 : pm_at q_law 1121 = some (.iconst 1, 1) := by decide +kernel
theorem i_law_1122 : pm_at q_law 1122 = some (.iadd, 1) := by decide +kernel
theorem i_law_1123 : pm_at q_law 1123 = some (.iaload, 1) := by decide +kernel
theorem i_law_1124 : pm_at q_law 1124 = some (.invokevirtual 151, 3) := by decide +kernel
theorem i_law_1127 : pm_at q_law 1127 = some (.aload_n 2, 1) := by decide +kernel
theorem i_law_1128 : pm_at q_law 1128 = some (.aload_n 0, 1) := by decide +kernel
theorem i_law_1129 : pm_at q_law 1129 = some (.iload_n 3, 1) := by decide +kernel
theorem i_law_1130 : pm_at q_law 1130 = some (.iconst 1, 1) := by decide +kernel
theorem i_law_1131 : pm_at q_law 1131 = some (.iadd, 1) := by decide +kernel
theorem i_law_1132 : pm_at q_law 1132 = some (.iaload, 1) := by decide +kernel
theorem i_law_1133 : pm_at q_law 1133 = some (.invokevirtual 154, 3) := by decide +kernel
theorem i_law_1136 : pm_at q_law 1136 = some (.if_icmp .eq 19, 3) := by decide +kernel
theorem i_law_1139 : pm_at q_law 1139 = some (.iconst 0, 1) := by decide +kernel
theorem i_law_1140 : pm_at q_law 1140 = some (.ireturn, 1) := by decide +kernel
theorem i_law_1141 : pm_at q_law 1141 = some (.aload_n 1, 1) := by decide +kernel
theorem i_law_1142 : pm_at q_law 1142 = some (.invokevirtual 155, 3) := by decide +kernel
theorem i_law_1145 : pm_at q_law 1145 = some (.aload_n 2, 1) := by decide +kernel
theorem i_law_1146 : pm_at q_law 1146 = some (.invokevirtual 159, 3) := by decide +kernel
theorem i_law_1149 : pm_at q_law 1149 = some (.lcmp, 1) := by decide +kernel
theorem i_law_1150 : pm_at q_law 1150 = some (.ifCond .eq 5, 3) := by decide +kernel
theorem i_law_1153 : pm_at q_law 1153 = some (.iconst 0, 1) := by decide +kernel
theorem i_law_1154 : pm_at q_law 1154 = some (.ireturn, 1) := by decide +kernel
theorem i_law_1155 : pm_at q_law 1155 = some (.iinc 3 6, 3) := by decide +kernel
theorem i_law_1158 : pm_at q_law 1158 = some (.goto (-1140), 3) := by decide +kernel
theorem i_law_1161 : pm_at q_law 1161 = some (.iconst 1, 1) := by decide +kernel
theorem i_law_1162 : pm_at q_law 1162 = some (.ireturn, 1) := by decide +kernel
/-- any of the three ways to write -/
def CL (M : Nat) (as : List Value) (mem : pm_M) (v : Option Value) (mem' : pm_M) : Prop := ∃ g, pm_ev g 24 M as mem v mem'
theorem CR.fr2 {π : Nat → Nat → Nat} {mi mi' : Nat → Nat → Int32} {ml ml' : Nat → Nat → Int64} {mr : Nat → Nat → Option Nat} {A : AV} (hw : WR π mr) (h : CR π mi ml A) (he : ∀ a, a ≤ 284 → mi' a = mi a) (hl : ml' 1 = ml 1) : CR π mi' ml' A := by
  obtain ⟨a1, a2, a3, a4, a5⟩ := h
  exact ⟨a1.cong hw sp_17 (fun a h1 h2 => he a (by omega)), fun i hi => ⟨by rw [he 3 (by omega)]; exact (a2 i hi).1, fun hk => ((a2 i hi).2 hk).cong hw (sp_img hi) (fun a h1 h2 => he a (by omega))⟩, ⟨a3.1, by rw [he 4 (by omega)]; exact a3.2.1, fun i hi => by rw [he 5 (by omega)]; exact a3.2.2 i hi⟩, by rw [hl]; exact a4, by rw [he 1 (by omega)]; exact a5⟩
theorem RR.fr2 {mi mi' : Nat → Nat → Int32} {ml ml' : Nat → Nat → Int64} {A : AV} (hA : okA A) (h : RR mi ml A) (he : ∀ a, 285 ≤ a → a ≤ 311 → mi' a = mi a) (hl : ml' 285 = ml 285) : RR mi' ml' A := by
  obtain ⟨a1, a2, a3, a4, a5, a6⟩ := h
  have e := he 285 (by omega) (by omega)
  exact ⟨a1.cong2 (fun a ha => he a (by omega) (by omega)) hA.n7, fun i hi => ⟨by rw [he 311 (by omega) (by omega)]; exact (a2 i hi).1, fun hk => ((a2 i hi).2 hk).cong (he 310 (by omega) (by omega))⟩, ⟨by rw [e]; exact a3.1, fun i hi => by rw [he 297 (by omega) (by omega)]; exact a3.2 i hi⟩, by rw [hl]; exact a4, by rw [he 286 (by omega) (by omega)]; exact a5, by rw [e]; exact a6⟩
/-- the state on both sides -/
def ST2 (π : Nat → Nat → Nat) (mi : Nat → Nat → Int32) (ml : Nat → Nat → Int64) (mr : Nat → Nat → Option Nat) (A : AV) : Prop := okA A ∧ WR π mr ∧ CR π mi ml A ∧ RR mi ml A
theorem both2 {L Mc Mr : Nat} {as : List Value} {r : Value} {A A' : AV} {π : Nat → Nat → Nat} {mi : Nat → Nat → Int32} {ml : Nat → Nat → Int64} {mr : Nat → Nat → Option Nat} (hS : ST2 π mi ml mr A) (hA' : okA A') (h1 : Cst L (0 + 24) Mc as A r A') (h2 : Rst L (0 + 24) Mr as A r A') : ∃ π' mi1 ml1 mr1 mi2 ml2, CL Mc (.ref 1 :: as) (WW L, mi, ml, mr) (some r) (WW L, mi1, ml1, mr1) ∧ CL Mr (.ref 285 :: as) (WW L, mi1, ml1, mr1) (some r) (WW L, mi2, ml2, mr1) ∧ mi1 0 = mi 0 ∧ ST2 π' mi2 ml2 mr1 A' := by
  obtain ⟨hA, hw, hc, hr⟩ := hS
  obtain ⟨π', mi1, ml1, mr1, e1, hw1, hc1⟩ := h1 π mi ml mr hw hc
  have p1 := pm_ev_pres _ _ _ _ _ _ e1
  have hr1 : RR mi1 ml1 A := hr.fr2 hA (fun a z1 z2 => (p1.2.2.2.2 a z2 (by show ¬ a ≤ 284; omega)).1) (p1.2.2.2.2 285 (by show 285 ≤ 311; decide) (by show ¬ 285 ≤ 284; decide)).2.1
  obtain ⟨mi2, ml2, e2, hr2⟩ := h2 π' mi1 ml1 mr1 hw1 hr1
  have p2 := pm_ev_pres _ _ _ _ _ _ e2
  have hc2 : CR π' mi2 ml2 A' := hc1.fr2 hw1 (fun a z1 => (p2.2.2.2.2 a (by show a ≤ 311; omega) (by show ¬ 285 ≤ a; omega)).1) (p2.2.2.2.2 1 (by show 1 ≤ 311; decide) (by show ¬ 285 ≤ 1; decide)).2.1
  exact ⟨π', mi1, ml1, mr1, mi2, ml2, ⟨gC, e1⟩, ⟨gR, e2⟩, p1.2.2.2.1, hA', hw1, hc2, hr2⟩
theorem bothI {L Mc Mr : Nat} {as : List Value} {A : AV} {π : Nat → Nat → Nat} {mi : Nat → Nat → Int32} {ml : Nat → Nat → Int64} {mr : Nat → Nat → Option Nat} (hS : ST2 π mi ml mr A) (h : SameI L Mc Mr as A) : ∃ (x : Int32) (A' : AV) (π' : Nat → Nat → Nat) (mi1 : Nat → Nat → Int32) (ml1 : Nat → Nat → Int64) (mr1 : Nat → Nat → Option Nat) (mi2 : Nat → Nat → Int32) (ml2 : Nat → Nat → Int64), CL Mc (.ref 1 :: as) (WW L, mi, ml, mr) (some (.int x)) (WW L, mi1, ml1, mr1) ∧ CL Mr (.ref 285 :: as) (WW L, mi1, ml1, mr1) (some (.int x)) (WW L, mi2, ml2, mr1) ∧ mi1 0 = mi 0 ∧ ST2 π' mi2 ml2 mr1 A' := by
  obtain ⟨x, A', hA', h1, h2⟩ := h
  obtain ⟨π', mi1, ml1, mr1, mi2, ml2, z⟩ := both2 hS hA' (h1 0) (h2 0)
  exact ⟨x, A', π', mi1, ml1, mr1, mi2, ml2, z⟩
theorem bothJ {L Mc Mr : Nat} {as : List Value} {A : AV} {π : Nat → Nat → Nat} {mi : Nat → Nat → Int32} {ml : Nat → Nat → Int64} {mr : Nat → Nat → Option Nat} (hS : ST2 π mi ml mr A) (h : SameJ L Mc Mr as A) : ∃ (x : Int64) (A' : AV) (π' : Nat → Nat → Nat) (mi1 : Nat → Nat → Int32) (ml1 : Nat → Nat → Int64) (mr1 : Nat → Nat → Option Nat) (mi2 : Nat → Nat → Int32) (ml2 : Nat → Nat → Int64), CL Mc (.ref 1 :: as) (WW L, mi, ml, mr) (some (.long x)) (WW L, mi1, ml1, mr1) ∧ CL Mr (.ref 285 :: as) (WW L, mi1, ml1, mr1) (some (.long x)) (WW L, mi2, ml2, mr1) ∧ mi1 0 = mi 0 ∧ ST2 π' mi2 ml2 mr1 A' := by
  obtain ⟨x, A', hA', h1, h2⟩ := h
  obtain ⟨π', mi1, ml1, mr1, mi2, ml2, z⟩ := both2 hS hA' (h1 0) (h2 0)
  exact ⟨x, A', π', mi1, ml1, mr1, mi2, ml2, z⟩
theorem lawlt {i L : Nat} (h : i < L) : i < (SH L 0).2 := h
theorem lcmp_self (x : Int64) : lg_cmp x x = 0 := by
  unfold lg_cmp
  simp
theorem lw6 {i L : Nat} (hi : i < 2 ^ 30) (hL : L < 2 ^ 30) : nI L - nI 6 < nI i ↔ L < i + 6 := by
  rw [Int32.lt_iff_toInt_lt, pk_sub_toInt (by omega) (by decide), nI_toInt (by omega)]
  omega
theorem law_0 {L i : Nat} {E : Option Value → pm_M → Prop} {A : AV} {π : Nat → Nat → Nat} {mi : Nat → Nat → Int32} {ml : Nat → Nat → Int64} {mr : Nat → Nat → Option Nat} (hL : L ≤ 384) (hi : i + 6 ≤ L) (hS : ST2 π mi ml mr A) (kk : ∀ (A : AV) (π : Nat → Nat → Nat) (mi : Nat → Nat → Int32) (ml : Nat → Nat → Int64) (mr : Nat → Nat → Option Nat), ST2 π mi ml mr A → Ev gT CL E q_law 1155 [some (.ref 0), some (.ref 1), some (.ref 285), some (.int (nI i))] [] (WW L, mi, ml, mr)) : Ev gT CL E q_law 188 [some (.ref 0), some (.ref 1), some (.ref 285), some (.int (nI i))] [] (WW L, mi, ml, mr) := by
  refine ev_aload_n (p' := 189) i_law_188 rfl rfl ?_
  refine ev_aload_n (p' := 190) i_law_189 rfl rfl ?_
  refine ev_iload_n (p' := 191) i_law_190 rfl rfl ?_
  refine ev_iconst (p' := 192) (v := nI 1) i_law_191 rfl (by decide) ?_
  refine ev_iaddN (p' := 193) i_law_192 rfl ?_
  refine ev_saldN (p' := 194) i_law_193 rfl (lawlt (by omega)) (by show L < 2 ^ 31; omega) ?_
  obtain ⟨x, A1, π1, mi1, ml1, mr1, mi2, ml2, e1, e2, h0, hS1⟩ := bothI hS (Q_book L A hS.1 (mi 0 (i + 1)))
  refine ev_v1I (p' := 197) i_law_194 rfl cl_13_13_11 (by decide) is_1 (Nat.le_of_ble_eq_true rfl) (e1) ?_
  refine ev_aload_n (p' := 198) i_law_197 rfl rfl ?_
  refine ev_aload_n (p' := 199) i_law_198 rfl rfl ?_
  refine ev_iload_n (p' := 200) i_law_199 rfl rfl ?_
  refine ev_iconst (p' := 201) (v := nI 1) i_law_200 rfl (by decide) ?_
  refine ev_iaddN (p' := 202) i_law_201 rfl ?_
  refine ev_saldN (p' := 203) i_law_202 rfl (lawlt (by omega)) (by show L < 2 ^ 31; omega) ?_
  rw [h0]
  refine ev_v1I (p' := 206) i_law_203 rfl cl_13_17_12 (by decide) is_285 (Nat.le_of_ble_eq_true rfl) (e2) ?_
  refine ev_icmp_eq (p' := 209) (tg := 1155) i_law_206 rfl rfl (fun c206 => ?_) (fun c206 => absurd (rfl) c206)
  exact kk A1 π1 mi2 ml2 mr1 hS1
theorem law_1 {L i : Nat} {E : Option Value → pm_M → Prop} {A : AV} {π : Nat → Nat → Nat} {mi : Nat → Nat → Int32} {ml : Nat → Nat → Int64} {mr : Nat → Nat → Option Nat} (hL : L ≤ 384) (hi : i + 6 ≤ L) (hS : ST2 π mi ml mr A) (kk : ∀ (A : AV) (π : Nat → Nat → Nat) (mi : Nat → Nat → Int32) (ml : Nat → Nat → Int64) (mr : Nat → Nat → Option Nat), ST2 π mi ml mr A → Ev gT CL E q_law 1155 [some (.ref 0), some (.ref 1), some (.ref 285), some (.int (nI i))] [] (WW L, mi, ml, mr)) : Ev gT CL E q_law 211 [some (.ref 0), some (.ref 1), some (.ref 285), some (.int (nI i))] [] (WW L, mi, ml, mr) := by
  refine ev_aload_n (p' := 212) i_law_211 rfl rfl ?_
  refine ev_aload_n (p' := 213) i_law_212 rfl rfl ?_
  refine ev_iload_n (p' := 214) i_law_213 rfl rfl ?_
  refine ev_iconst (p' := 215) (v := nI 1) i_law_214 rfl (by decide) ?_
  refine ev_iaddN (p' := 216) i_law_215 rfl ?_
  refine ev_saldN (p' := 217) i_law_216 rfl (lawlt (by omega)) (by show L < 2 ^ 31; omega) ?_
  refine ev_aload_n (p' := 218) i_law_217 rfl rfl ?_
  refine ev_iload_n (p' := 219) i_law_218 rfl rfl ?_
  refine ev_iconst (p' := 220) (v := nI 2) i_law_219 rfl (by decide) ?_
  refine ev_iaddN (p' := 221) i_law_220 rfl ?_
  refine ev_saldN (p' := 222) i_law_221 rfl (lawlt (by omega)) (by show L < 2 ^ 31; omega) ?_
  refine ev_aload_n (p' := 223) i_law_222 rfl rfl ?_
  refine ev_iload_n (p' := 224) i_law_223 rfl rfl ?_
  refine ev_iconst (p' := 225) (v := nI 3) i_law_224 rfl (by decide) ?_
  refine ev_iaddN (p' := 226) i_law_225 rfl ?_
  refine ev_saldN (p' := 227) i_law_226 rfl (lawlt (by omega)) (by show L < 2 ^ 31; omega) ?_
  refine ev_aload_n (p' := 228) i_law_227 rfl rfl ?_
  refine ev_iload_n (p' := 229) i_law_228 rfl rfl ?_
  refine ev_iconst (p' := 230) (v := nI 4) i_law_229 rfl (by decide) ?_
  refine ev_iaddN (p' := 231) i_law_230 rfl ?_
  refine ev_saldN (p' := 232) i_law_231 rfl (lawlt (by omega)) (by show L < 2 ^ 31; omega) ?_
  refine ev_aload_n (p' := 233) i_law_232 rfl rfl ?_
  refine ev_iload_n (p' := 234) i_law_233 rfl rfl ?_
  refine ev_iconst (p' := 235) (v := nI 5) i_law_234 rfl (by decide) ?_
  refine ev_iaddN (p' := 236) i_law_235 rfl ?_
  refine ev_saldN (p' := 237) i_law_236 rfl (lawlt (by omega)) (by show L < 2 ^ 31; omega) ?_
  obtain ⟨x, A1, π1, mi1, ml1, mr1, mi2, ml2, e1, e2, h0, hS1⟩ := bothI hS (Q_piece L A hS.1 (mi 0 (i + 1)) (mi 0 (i + 2)) (mi 0 (i + 3)) (mi 0 (i + 4)) (mi 0 (i + 5)))
  refine ev_v5I (p' := 240) i_law_237 rfl cl_13_18_11 (by decide) is_1 (Nat.le_of_ble_eq_true rfl) (e1) ?_
  refine ev_aload_n (p' := 241) i_law_240 rfl rfl ?_
  refine ev_aload_n (p' := 242) i_law_241 rfl rfl ?_
  refine ev_iload_n (p' := 243) i_law_242 rfl rfl ?_
  refine ev_iconst (p' := 244) (v := nI 1) i_law_243 rfl (by decide) ?_
  refine ev_iaddN (p' := 245) i_law_244 rfl ?_
  refine ev_saldN (p' := 246) i_law_245 rfl (lawlt (by omega)) (by show L < 2 ^ 31; omega) ?_
  refine ev_aload_n (p' := 247) i_law_246 rfl rfl ?_
  refine ev_iload_n (p' := 248) i_law_247 rfl rfl ?_
  refine ev_iconst (p' := 249) (v := nI 2) i_law_248 rfl (by decide) ?_
  refine ev_iaddN (p' := 250) i_law_249 rfl ?_
  refine ev_saldN (p' := 251) i_law_250 rfl (lawlt (by omega)) (by show L < 2 ^ 31; omega) ?_
  refine ev_aload_n (p' := 252) i_law_251 rfl rfl ?_
  refine ev_iload_n (p' := 253) i_law_252 rfl rfl ?_
  refine ev_iconst (p' := 254) (v := nI 3) i_law_253 rfl (by decide) ?_
  refine ev_iaddN (p' := 255) i_law_254 rfl ?_
  refine ev_saldN (p' := 256) i_law_255 rfl (lawlt (by omega)) (by show L < 2 ^ 31; omega) ?_
  refine ev_aload_n (p' := 257) i_law_256 rfl rfl ?_
  refine ev_iload_n (p' := 258) i_law_257 rfl rfl ?_
  refine ev_iconst (p' := 259) (v := nI 4) i_law_258 rfl (by decide) ?_
  refine ev_iaddN (p' := 260) i_law_259 rfl ?_
  refine ev_saldN (p' := 261) i_law_260 rfl (lawlt (by omega)) (by show L < 2 ^ 31; omega) ?_
  refine ev_aload_n (p' := 262) i_law_261 rfl rfl ?_
  refine ev_iload_n (p' := 263) i_law_262 rfl rfl ?_
  refine ev_iconst (p' := 264) (v := nI 5) i_law_263 rfl (by decide) ?_
  refine ev_iaddN (p' := 265) i_law_264 rfl ?_
  refine ev_saldN (p' := 266) i_law_265 rfl (lawlt (by omega)) (by show L < 2 ^ 31; omega) ?_
  rw [h0]
  refine ev_v5I (p' := 269) i_law_266 rfl cl_13_22_12 (by decide) is_285 (Nat.le_of_ble_eq_true rfl) (e2) ?_
  refine ev_icmp_eq (p' := 272) (tg := 1155) i_law_269 rfl rfl (fun c269 => ?_) (fun c269 => absurd (rfl) c269)
  exact kk A1 π1 mi2 ml2 mr1 hS1
theorem law_2 {L i : Nat} {E : Option Value → pm_M → Prop} {A : AV} {π : Nat → Nat → Nat} {mi : Nat → Nat → Int32} {ml : Nat → Nat → Int64} {mr : Nat → Nat → Option Nat} (hL : L ≤ 384) (hi : i + 6 ≤ L) (hS : ST2 π mi ml mr A) (kk : ∀ (A : AV) (π : Nat → Nat → Nat) (mi : Nat → Nat → Int32) (ml : Nat → Nat → Int64) (mr : Nat → Nat → Option Nat), ST2 π mi ml mr A → Ev gT CL E q_law 1155 [some (.ref 0), some (.ref 1), some (.ref 285), some (.int (nI i))] [] (WW L, mi, ml, mr)) : Ev gT CL E q_law 274 [some (.ref 0), some (.ref 1), some (.ref 285), some (.int (nI i))] [] (WW L, mi, ml, mr) := by
  refine ev_aload_n (p' := 275) i_law_274 rfl rfl ?_
  refine ev_aload_n (p' := 276) i_law_275 rfl rfl ?_
  refine ev_iload_n (p' := 277) i_law_276 rfl rfl ?_
  refine ev_iconst (p' := 278) (v := nI 1) i_law_277 rfl (by decide) ?_
  refine ev_iaddN (p' := 279) i_law_278 rfl ?_
  refine ev_saldN (p' := 280) i_law_279 rfl (lawlt (by omega)) (by show L < 2 ^ 31; omega) ?_
  obtain ⟨x, A1, π1, mi1, ml1, mr1, mi2, ml2, e1, e2, h0, hS1⟩ := bothI hS (Q_type L A hS.1 (mi 0 (i + 1)))
  refine ev_v1I (p' := 283) i_law_280 rfl cl_13_23_11 (by decide) is_1 (Nat.le_of_ble_eq_true rfl) (e1) ?_
  refine ev_aload_n (p' := 284) i_law_283 rfl rfl ?_
  refine ev_aload_n (p' := 285) i_law_284 rfl rfl ?_
  refine ev_iload_n (p' := 286) i_law_285 rfl rfl ?_
  refine ev_iconst (p' := 287) (v := nI 1) i_law_286 rfl (by decide) ?_
  refine ev_iaddN (p' := 288) i_law_287 rfl ?_
  refine ev_saldN (p' := 289) i_law_288 rfl (lawlt (by omega)) (by show L < 2 ^ 31; omega) ?_
  rw [h0]
  refine ev_v1I (p' := 292) i_law_289 rfl cl_13_26_12 (by decide) is_285 (Nat.le_of_ble_eq_true rfl) (e2) ?_
  refine ev_icmp_eq (p' := 295) (tg := 1155) i_law_292 rfl rfl (fun c292 => ?_) (fun c292 => absurd (rfl) c292)
  exact kk A1 π1 mi2 ml2 mr1 hS1
theorem law_3 {L i : Nat} {E : Option Value → pm_M → Prop} {A : AV} {π : Nat → Nat → Nat} {mi : Nat → Nat → Int32} {ml : Nat → Nat → Int64} {mr : Nat → Nat → Option Nat} (hL : L ≤ 384) (hi : i + 6 ≤ L) (hS : ST2 π mi ml mr A) (kk : ∀ (A : AV) (π : Nat → Nat → Nat) (mi : Nat → Nat → Int32) (ml : Nat → Nat → Int64) (mr : Nat → Nat → Option Nat), ST2 π mi ml mr A → Ev gT CL E q_law 1155 [some (.ref 0), some (.ref 1), some (.ref 285), some (.int (nI i))] [] (WW L, mi, ml, mr)) : Ev gT CL E q_law 297 [some (.ref 0), some (.ref 1), some (.ref 285), some (.int (nI i))] [] (WW L, mi, ml, mr) := by
  refine ev_aload_n (p' := 298) i_law_297 rfl rfl ?_
  obtain ⟨x, A1, π1, mi1, ml1, mr1, mi2, ml2, e1, e2, h0, hS1⟩ := bothI hS (Q_clear L A hS.1)
  refine ev_v0I (p' := 301) i_law_298 rfl cl_13_27_11 (by decide) is_1 (Nat.le_of_ble_eq_true rfl) (e1) ?_
  refine ev_aload_n (p' := 302) i_law_301 rfl rfl ?_
  skip
  refine ev_v0I (p' := 305) i_law_302 rfl cl_13_31_12 (by decide) is_285 (Nat.le_of_ble_eq_true rfl) (e2) ?_
  refine ev_icmp_eq (p' := 308) (tg := 1155) i_law_305 rfl rfl (fun c305 => ?_) (fun c305 => absurd (rfl) c305)
  exact kk A1 π1 mi2 ml2 mr1 hS1
theorem law_4 {L i : Nat} {E : Option Value → pm_M → Prop} {A : AV} {π : Nat → Nat → Nat} {mi : Nat → Nat → Int32} {ml : Nat → Nat → Int64} {mr : Nat → Nat → Option Nat} (hL : L ≤ 384) (hi : i + 6 ≤ L) (hS : ST2 π mi ml mr A) (kk : ∀ (A : AV) (π : Nat → Nat → Nat) (mi : Nat → Nat → Int32) (ml : Nat → Nat → Int64) (mr : Nat → Nat → Option Nat), ST2 π mi ml mr A → Ev gT CL E q_law 1155 [some (.ref 0), some (.ref 1), some (.ref 285), some (.int (nI i))] [] (WW L, mi, ml, mr)) : Ev gT CL E q_law 310 [some (.ref 0), some (.ref 1), some (.ref 285), some (.int (nI i))] [] (WW L, mi, ml, mr) := by
  refine ev_aload_n (p' := 311) i_law_310 rfl rfl ?_
  obtain ⟨x, A1, π1, mi1, ml1, mr1, mi2, ml2, e1, e2, h0, hS1⟩ := bothI hS (Q_read L A hS.1)
  refine ev_v0I (p' := 314) i_law_311 rfl cl_13_32_11 (by decide) is_1 (Nat.le_of_ble_eq_true rfl) (e1) ?_
  refine ev_aload_n (p' := 315) i_law_314 rfl rfl ?_
  skip
  refine ev_v0I (p' := 318) i_law_315 rfl cl_13_35_12 (by decide) is_285 (Nat.le_of_ble_eq_true rfl) (e2) ?_
  refine ev_icmp_eq (p' := 321) (tg := 1155) i_law_318 rfl rfl (fun c318 => ?_) (fun c318 => absurd (rfl) c318)
  exact kk A1 π1 mi2 ml2 mr1 hS1
theorem law_5 {L i : Nat} {E : Option Value → pm_M → Prop} {A : AV} {π : Nat → Nat → Nat} {mi : Nat → Nat → Int32} {ml : Nat → Nat → Int64} {mr : Nat → Nat → Option Nat} (hL : L ≤ 384) (hi : i + 6 ≤ L) (hS : ST2 π mi ml mr A) (kk : ∀ (A : AV) (π : Nat → Nat → Nat) (mi : Nat → Nat → Int32) (ml : Nat → Nat → Int64) (mr : Nat → Nat → Option Nat), ST2 π mi ml mr A → Ev gT CL E q_law 1155 [some (.ref 0), some (.ref 1), some (.ref 285), some (.int (nI i))] [] (WW L, mi, ml, mr)) : Ev gT CL E q_law 323 [some (.ref 0), some (.ref 1), some (.ref 285), some (.int (nI i))] [] (WW L, mi, ml, mr) := by
  refine ev_aload_n (p' := 324) i_law_323 rfl rfl ?_
  refine ev_aload_n (p' := 325) i_law_324 rfl rfl ?_
  refine ev_iload_n (p' := 326) i_law_325 rfl rfl ?_
  refine ev_iconst (p' := 327) (v := nI 1) i_law_326 rfl (by decide) ?_
  refine ev_iaddN (p' := 328) i_law_327 rfl ?_
  refine ev_saldN (p' := 329) i_law_328 rfl (lawlt (by omega)) (by show L < 2 ^ 31; omega) ?_
  obtain ⟨x, A1, π1, mi1, ml1, mr1, mi2, ml2, e1, e2, h0, hS1⟩ := bothI hS (Q_opens L A hS.1 (mi 0 (i + 1)))
  refine ev_v1I (p' := 332) i_law_329 rfl cl_13_36_11 (by decide) is_1 (Nat.le_of_ble_eq_true rfl) (e1) ?_
  refine ev_aload_n (p' := 333) i_law_332 rfl rfl ?_
  refine ev_aload_n (p' := 334) i_law_333 rfl rfl ?_
  refine ev_iload_n (p' := 335) i_law_334 rfl rfl ?_
  refine ev_iconst (p' := 336) (v := nI 1) i_law_335 rfl (by decide) ?_
  refine ev_iaddN (p' := 337) i_law_336 rfl ?_
  refine ev_saldN (p' := 338) i_law_337 rfl (lawlt (by omega)) (by show L < 2 ^ 31; omega) ?_
  rw [h0]
  refine ev_v1I (p' := 341) i_law_338 rfl cl_13_39_12 (by decide) is_285 (Nat.le_of_ble_eq_true rfl) (e2) ?_
  refine ev_icmp_eq (p' := 344) (tg := 1155) i_law_341 rfl rfl (fun c341 => ?_) (fun c341 => absurd (rfl) c341)
  exact kk A1 π1 mi2 ml2 mr1 hS1
theorem law_6 {L i : Nat} {E : Option Value → pm_M → Prop} {A : AV} {π : Nat → Nat → Nat} {mi : Nat → Nat → Int32} {ml : Nat → Nat → Int64} {mr : Nat → Nat → Option Nat} (hL : L ≤ 384) (hi : i + 6 ≤ L) (hS : ST2 π mi ml mr A) (kk : ∀ (A : AV) (π : Nat → Nat → Nat) (mi : Nat → Nat → Int32) (ml : Nat → Nat → Int64) (mr : Nat → Nat → Option Nat), ST2 π mi ml mr A → Ev gT CL E q_law 1155 [some (.ref 0), some (.ref 1), some (.ref 285), some (.int (nI i))] [] (WW L, mi, ml, mr)) : Ev gT CL E q_law 346 [some (.ref 0), some (.ref 1), some (.ref 285), some (.int (nI i))] [] (WW L, mi, ml, mr) := by
  refine ev_aload_n (p' := 347) i_law_346 rfl rfl ?_
  refine ev_aload_n (p' := 348) i_law_347 rfl rfl ?_
  refine ev_iload_n (p' := 349) i_law_348 rfl rfl ?_
  refine ev_iconst (p' := 350) (v := nI 1) i_law_349 rfl (by decide) ?_
  refine ev_iaddN (p' := 351) i_law_350 rfl ?_
  refine ev_saldN (p' := 352) i_law_351 rfl (lawlt (by omega)) (by show L < 2 ^ 31; omega) ?_
  refine ev_aload_n (p' := 353) i_law_352 rfl rfl ?_
  refine ev_iload_n (p' := 354) i_law_353 rfl rfl ?_
  refine ev_iconst (p' := 355) (v := nI 2) i_law_354 rfl (by decide) ?_
  refine ev_iaddN (p' := 356) i_law_355 rfl ?_
  refine ev_saldN (p' := 357) i_law_356 rfl (lawlt (by omega)) (by show L < 2 ^ 31; omega) ?_
  obtain ⟨x, A1, π1, mi1, ml1, mr1, mi2, ml2, e1, e2, h0, hS1⟩ := bothI hS (Q_pulls L A hS.1 (mi 0 (i + 1)) (mi 0 (i + 2)))
  refine ev_v2I (p' := 360) i_law_357 rfl cl_13_40_11 (by decide) is_1 (Nat.le_of_ble_eq_true rfl) (e1) ?_
  refine ev_aload_n (p' := 361) i_law_360 rfl rfl ?_
  refine ev_aload_n (p' := 362) i_law_361 rfl rfl ?_
  refine ev_iload_n (p' := 363) i_law_362 rfl rfl ?_
  refine ev_iconst (p' := 364) (v := nI 1) i_law_363 rfl (by decide) ?_
  refine ev_iaddN (p' := 365) i_law_364 rfl ?_
  refine ev_saldN (p' := 366) i_law_365 rfl (lawlt (by omega)) (by show L < 2 ^ 31; omega) ?_
  refine ev_aload_n (p' := 367) i_law_366 rfl rfl ?_
  refine ev_iload_n (p' := 368) i_law_367 rfl rfl ?_
  refine ev_iconst (p' := 369) (v := nI 2) i_law_368 rfl (by decide) ?_
  refine ev_iaddN (p' := 370) i_law_369 rfl ?_
  refine ev_saldN (p' := 371) i_law_370 rfl (lawlt (by omega)) (by show L < 2 ^ 31; omega) ?_
  rw [h0]
  refine ev_v2I (p' := 374) i_law_371 rfl cl_13_44_12 (by decide) is_285 (Nat.le_of_ble_eq_true rfl) (e2) ?_
  refine ev_icmp_eq (p' := 377) (tg := 1155) i_law_374 rfl rfl (fun c374 => ?_) (fun c374 => absurd (rfl) c374)
  exact kk A1 π1 mi2 ml2 mr1 hS1
theorem law_7 {L i : Nat} {E : Option Value → pm_M → Prop} {A : AV} {π : Nat → Nat → Nat} {mi : Nat → Nat → Int32} {ml : Nat → Nat → Int64} {mr : Nat → Nat → Option Nat} (hL : L ≤ 384) (hi : i + 6 ≤ L) (hS : ST2 π mi ml mr A) (kk : ∀ (A : AV) (π : Nat → Nat → Nat) (mi : Nat → Nat → Int32) (ml : Nat → Nat → Int64) (mr : Nat → Nat → Option Nat), ST2 π mi ml mr A → Ev gT CL E q_law 1155 [some (.ref 0), some (.ref 1), some (.ref 285), some (.int (nI i))] [] (WW L, mi, ml, mr)) : Ev gT CL E q_law 379 [some (.ref 0), some (.ref 1), some (.ref 285), some (.int (nI i))] [] (WW L, mi, ml, mr) := by
  refine ev_aload_n (p' := 380) i_law_379 rfl rfl ?_
  refine ev_aload_n (p' := 381) i_law_380 rfl rfl ?_
  refine ev_iload_n (p' := 382) i_law_381 rfl rfl ?_
  refine ev_iconst (p' := 383) (v := nI 1) i_law_382 rfl (by decide) ?_
  refine ev_iaddN (p' := 384) i_law_383 rfl ?_
  refine ev_saldN (p' := 385) i_law_384 rfl (lawlt (by omega)) (by show L < 2 ^ 31; omega) ?_
  obtain ⟨x, A1, π1, mi1, ml1, mr1, mi2, ml2, e1, e2, h0, hS1⟩ := bothI hS (Q_tears L A hS.1 (mi 0 (i + 1)))
  refine ev_v1I (p' := 388) i_law_385 rfl cl_13_45_11 (by decide) is_1 (Nat.le_of_ble_eq_true rfl) (e1) ?_
  refine ev_aload_n (p' := 389) i_law_388 rfl rfl ?_
  refine ev_aload_n (p' := 390) i_law_389 rfl rfl ?_
  refine ev_iload_n (p' := 391) i_law_390 rfl rfl ?_
  refine ev_iconst (p' := 392) (v := nI 1) i_law_391 rfl (by decide) ?_
  refine ev_iaddN (p' := 393) i_law_392 rfl ?_
  refine ev_saldN (p' := 394) i_law_393 rfl (lawlt (by omega)) (by show L < 2 ^ 31; omega) ?_
  rw [h0]
  refine ev_v1I (p' := 397) i_law_394 rfl cl_13_48_12 (by decide) is_285 (Nat.le_of_ble_eq_true rfl) (e2) ?_
  refine ev_icmp_eq (p' := 400) (tg := 1155) i_law_397 rfl rfl (fun c397 => ?_) (fun c397 => absurd (rfl) c397)
  exact kk A1 π1 mi2 ml2 mr1 hS1
theorem law_8 {L i : Nat} {E : Option Value → pm_M → Prop} {A : AV} {π : Nat → Nat → Nat} {mi : Nat → Nat → Int32} {ml : Nat → Nat → Int64} {mr : Nat → Nat → Option Nat} (hL : L ≤ 384) (hi : i + 6 ≤ L) (hS : ST2 π mi ml mr A) (kk : ∀ (A : AV) (π : Nat → Nat → Nat) (mi : Nat → Nat → Int32) (ml : Nat → Nat → Int64) (mr : Nat → Nat → Option Nat), ST2 π mi ml mr A → Ev gT CL E q_law 1155 [some (.ref 0), some (.ref 1), some (.ref 285), some (.int (nI i))] [] (WW L, mi, ml, mr)) : Ev gT CL E q_law 402 [some (.ref 0), some (.ref 1), some (.ref 285), some (.int (nI i))] [] (WW L, mi, ml, mr) := by
  refine ev_aload_n (p' := 403) i_law_402 rfl rfl ?_
  obtain ⟨x, A1, π1, mi1, ml1, mr1, mi2, ml2, e1, e2, h0, hS1⟩ := bothI hS (Q_undo L A hS.1)
  refine ev_v0I (p' := 406) i_law_403 rfl cl_13_49_11 (by decide) is_1 (Nat.le_of_ble_eq_true rfl) (e1) ?_
  refine ev_aload_n (p' := 407) i_law_406 rfl rfl ?_
  skip
  refine ev_v0I (p' := 410) i_law_407 rfl cl_13_52_12 (by decide) is_285 (Nat.le_of_ble_eq_true rfl) (e2) ?_
  refine ev_icmp_eq (p' := 413) (tg := 1155) i_law_410 rfl rfl (fun c410 => ?_) (fun c410 => absurd (rfl) c410)
  exact kk A1 π1 mi2 ml2 mr1 hS1
theorem law_9 {L i : Nat} {E : Option Value → pm_M → Prop} {A : AV} {π : Nat → Nat → Nat} {mi : Nat → Nat → Int32} {ml : Nat → Nat → Int64} {mr : Nat → Nat → Option Nat} (hL : L ≤ 384) (hi : i + 6 ≤ L) (hS : ST2 π mi ml mr A) (kk : ∀ (A : AV) (π : Nat → Nat → Nat) (mi : Nat → Nat → Int32) (ml : Nat → Nat → Int64) (mr : Nat → Nat → Option Nat), ST2 π mi ml mr A → Ev gT CL E q_law 1155 [some (.ref 0), some (.ref 1), some (.ref 285), some (.int (nI i))] [] (WW L, mi, ml, mr)) : Ev gT CL E q_law 415 [some (.ref 0), some (.ref 1), some (.ref 285), some (.int (nI i))] [] (WW L, mi, ml, mr) := by
  refine ev_aload_n (p' := 416) i_law_415 rfl rfl ?_
  refine ev_aload_n (p' := 417) i_law_416 rfl rfl ?_
  refine ev_iload_n (p' := 418) i_law_417 rfl rfl ?_
  refine ev_iconst (p' := 419) (v := nI 1) i_law_418 rfl (by decide) ?_
  refine ev_iaddN (p' := 420) i_law_419 rfl ?_
  refine ev_saldN (p' := 421) i_law_420 rfl (lawlt (by omega)) (by show L < 2 ^ 31; omega) ?_
  refine ev_aload_n (p' := 422) i_law_421 rfl rfl ?_
  refine ev_iload_n (p' := 423) i_law_422 rfl rfl ?_
  refine ev_iconst (p' := 424) (v := nI 2) i_law_423 rfl (by decide) ?_
  refine ev_iaddN (p' := 425) i_law_424 rfl ?_
  refine ev_saldN (p' := 426) i_law_425 rfl (lawlt (by omega)) (by show L < 2 ^ 31; omega) ?_
  obtain ⟨x, A1, π1, mi1, ml1, mr1, mi2, ml2, e1, e2, h0, hS1⟩ := bothI hS (Q_of L A hS.1 (mi 0 (i + 1)) (mi 0 (i + 2)))
  refine ev_v2I (p' := 429) i_law_426 rfl cl_13_53_11 (by decide) is_1 (Nat.le_of_ble_eq_true rfl) (e1) ?_
  refine ev_aload_n (p' := 430) i_law_429 rfl rfl ?_
  refine ev_aload_n (p' := 431) i_law_430 rfl rfl ?_
  refine ev_iload_n (p' := 432) i_law_431 rfl rfl ?_
  refine ev_iconst (p' := 433) (v := nI 1) i_law_432 rfl (by decide) ?_
  refine ev_iaddN (p' := 434) i_law_433 rfl ?_
  refine ev_saldN (p' := 435) i_law_434 rfl (lawlt (by omega)) (by show L < 2 ^ 31; omega) ?_
  refine ev_aload_n (p' := 436) i_law_435 rfl rfl ?_
  refine ev_iload_n (p' := 437) i_law_436 rfl rfl ?_
  refine ev_iconst (p' := 438) (v := nI 2) i_law_437 rfl (by decide) ?_
  refine ev_iaddN (p' := 439) i_law_438 rfl ?_
  refine ev_saldN (p' := 440) i_law_439 rfl (lawlt (by omega)) (by show L < 2 ^ 31; omega) ?_
  rw [h0]
  refine ev_v2I (p' := 443) i_law_440 rfl cl_13_56_12 (by decide) is_285 (Nat.le_of_ble_eq_true rfl) (e2) ?_
  refine ev_icmp_eq (p' := 446) (tg := 1155) i_law_443 rfl rfl (fun c443 => ?_) (fun c443 => absurd (rfl) c443)
  exact kk A1 π1 mi2 ml2 mr1 hS1
theorem law_10 {L i : Nat} {E : Option Value → pm_M → Prop} {A : AV} {π : Nat → Nat → Nat} {mi : Nat → Nat → Int32} {ml : Nat → Nat → Int64} {mr : Nat → Nat → Option Nat} (hL : L ≤ 384) (hi : i + 6 ≤ L) (hS : ST2 π mi ml mr A) (kk : ∀ (A : AV) (π : Nat → Nat → Nat) (mi : Nat → Nat → Int32) (ml : Nat → Nat → Int64) (mr : Nat → Nat → Option Nat), ST2 π mi ml mr A → Ev gT CL E q_law 1155 [some (.ref 0), some (.ref 1), some (.ref 285), some (.int (nI i))] [] (WW L, mi, ml, mr)) : Ev gT CL E q_law 448 [some (.ref 0), some (.ref 1), some (.ref 285), some (.int (nI i))] [] (WW L, mi, ml, mr) := by
  refine ev_aload_n (p' := 449) i_law_448 rfl rfl ?_
  refine ev_aload_n (p' := 450) i_law_449 rfl rfl ?_
  refine ev_iload_n (p' := 451) i_law_450 rfl rfl ?_
  refine ev_iconst (p' := 452) (v := nI 1) i_law_451 rfl (by decide) ?_
  refine ev_iaddN (p' := 453) i_law_452 rfl ?_
  refine ev_saldN (p' := 454) i_law_453 rfl (lawlt (by omega)) (by show L < 2 ^ 31; omega) ?_
  refine ev_aload_n (p' := 455) i_law_454 rfl rfl ?_
  refine ev_iload_n (p' := 456) i_law_455 rfl rfl ?_
  refine ev_iconst (p' := 457) (v := nI 2) i_law_456 rfl (by decide) ?_
  refine ev_iaddN (p' := 458) i_law_457 rfl ?_
  refine ev_saldN (p' := 459) i_law_458 rfl (lawlt (by omega)) (by show L < 2 ^ 31; omega) ?_
  refine ev_aload_n (p' := 460) i_law_459 rfl rfl ?_
  refine ev_iload_n (p' := 461) i_law_460 rfl rfl ?_
  refine ev_iconst (p' := 462) (v := nI 3) i_law_461 rfl (by decide) ?_
  refine ev_iaddN (p' := 463) i_law_462 rfl ?_
  refine ev_saldN (p' := 464) i_law_463 rfl (lawlt (by omega)) (by show L < 2 ^ 31; omega) ?_
  obtain ⟨x, A1, π1, mi1, ml1, mr1, mi2, ml2, e1, e2, h0, hS1⟩ := bothI hS (Q_gives L A hS.1 (mi 0 (i + 1)) (mi 0 (i + 2)) (mi 0 (i + 3)))
  refine ev_v3I (p' := 467) i_law_464 rfl cl_13_57_11 (by decide) is_1 (Nat.le_of_ble_eq_true rfl) (e1) ?_
  refine ev_aload_n (p' := 468) i_law_467 rfl rfl ?_
  refine ev_aload_n (p' := 469) i_law_468 rfl rfl ?_
  refine ev_iload_n (p' := 470) i_law_469 rfl rfl ?_
  refine ev_iconst (p' := 471) (v := nI 1) i_law_470 rfl (by decide) ?_
  refine ev_iaddN (p' := 472) i_law_471 rfl ?_
  refine ev_saldN (p' := 473) i_law_472 rfl (lawlt (by omega)) (by show L < 2 ^ 31; omega) ?_
  refine ev_aload_n (p' := 474) i_law_473 rfl rfl ?_
  refine ev_iload_n (p' := 475) i_law_474 rfl rfl ?_
  refine ev_iconst (p' := 476) (v := nI 2) i_law_475 rfl (by decide) ?_
  refine ev_iaddN (p' := 477) i_law_476 rfl ?_
  refine ev_saldN (p' := 478) i_law_477 rfl (lawlt (by omega)) (by show L < 2 ^ 31; omega) ?_
  refine ev_aload_n (p' := 479) i_law_478 rfl rfl ?_
  refine ev_iload_n (p' := 480) i_law_479 rfl rfl ?_
  refine ev_iconst (p' := 481) (v := nI 3) i_law_480 rfl (by decide) ?_
  refine ev_iaddN (p' := 482) i_law_481 rfl ?_
  refine ev_saldN (p' := 483) i_law_482 rfl (lawlt (by omega)) (by show L < 2 ^ 31; omega) ?_
  rw [h0]
  refine ev_v3I (p' := 486) i_law_483 rfl cl_13_61_12 (by decide) is_285 (Nat.le_of_ble_eq_true rfl) (e2) ?_
  refine ev_icmp_eq (p' := 489) (tg := 1155) i_law_486 rfl rfl (fun c486 => ?_) (fun c486 => absurd (rfl) c486)
  exact kk A1 π1 mi2 ml2 mr1 hS1
theorem law_11 {L i : Nat} {E : Option Value → pm_M → Prop} {A : AV} {π : Nat → Nat → Nat} {mi : Nat → Nat → Int32} {ml : Nat → Nat → Int64} {mr : Nat → Nat → Option Nat} (hL : L ≤ 384) (hi : i + 6 ≤ L) (hS : ST2 π mi ml mr A) (kk : ∀ (A : AV) (π : Nat → Nat → Nat) (mi : Nat → Nat → Int32) (ml : Nat → Nat → Int64) (mr : Nat → Nat → Option Nat), ST2 π mi ml mr A → Ev gT CL E q_law 1155 [some (.ref 0), some (.ref 1), some (.ref 285), some (.int (nI i))] [] (WW L, mi, ml, mr)) : Ev gT CL E q_law 491 [some (.ref 0), some (.ref 1), some (.ref 285), some (.int (nI i))] [] (WW L, mi, ml, mr) := by
  refine ev_aload_n (p' := 492) i_law_491 rfl rfl ?_
  refine ev_aload_n (p' := 493) i_law_492 rfl rfl ?_
  refine ev_iload_n (p' := 494) i_law_493 rfl rfl ?_
  refine ev_iconst (p' := 495) (v := nI 1) i_law_494 rfl (by decide) ?_
  refine ev_iaddN (p' := 496) i_law_495 rfl ?_
  refine ev_saldN (p' := 497) i_law_496 rfl (lawlt (by omega)) (by show L < 2 ^ 31; omega) ?_
  refine ev_aload_n (p' := 498) i_law_497 rfl rfl ?_
  refine ev_iload_n (p' := 499) i_law_498 rfl rfl ?_
  refine ev_iconst (p' := 500) (v := nI 2) i_law_499 rfl (by decide) ?_
  refine ev_iaddN (p' := 501) i_law_500 rfl ?_
  refine ev_saldN (p' := 502) i_law_501 rfl (lawlt (by omega)) (by show L < 2 ^ 31; omega) ?_
  obtain ⟨x, A1, π1, mi1, ml1, mr1, mi2, ml2, e1, e2, h0, hS1⟩ := bothI hS (Q_height L A hS.1 (mi 0 (i + 1)) (mi 0 (i + 2)))
  refine ev_v2I (p' := 505) i_law_502 rfl cl_13_62_11 (by decide) is_1 (Nat.le_of_ble_eq_true rfl) (e1) ?_
  refine ev_aload_n (p' := 506) i_law_505 rfl rfl ?_
  refine ev_aload_n (p' := 507) i_law_506 rfl rfl ?_
  refine ev_iload_n (p' := 508) i_law_507 rfl rfl ?_
  refine ev_iconst (p' := 509) (v := nI 1) i_law_508 rfl (by decide) ?_
  refine ev_iaddN (p' := 510) i_law_509 rfl ?_
  refine ev_saldN (p' := 511) i_law_510 rfl (lawlt (by omega)) (by show L < 2 ^ 31; omega) ?_
  refine ev_aload_n (p' := 512) i_law_511 rfl rfl ?_
  refine ev_iload_n (p' := 513) i_law_512 rfl rfl ?_
  refine ev_iconst (p' := 514) (v := nI 2) i_law_513 rfl (by decide) ?_
  refine ev_iaddN (p' := 515) i_law_514 rfl ?_
  refine ev_saldN (p' := 516) i_law_515 rfl (lawlt (by omega)) (by show L < 2 ^ 31; omega) ?_
  rw [h0]
  refine ev_v2I (p' := 519) i_law_516 rfl cl_13_65_12 (by decide) is_285 (Nat.le_of_ble_eq_true rfl) (e2) ?_
  refine ev_icmp_eq (p' := 522) (tg := 1155) i_law_519 rfl rfl (fun c519 => ?_) (fun c519 => absurd (rfl) c519)
  exact kk A1 π1 mi2 ml2 mr1 hS1
theorem law_12 {L i : Nat} {E : Option Value → pm_M → Prop} {A : AV} {π : Nat → Nat → Nat} {mi : Nat → Nat → Int32} {ml : Nat → Nat → Int64} {mr : Nat → Nat → Option Nat} (hL : L ≤ 384) (hi : i + 6 ≤ L) (hS : ST2 π mi ml mr A) (kk : ∀ (A : AV) (π : Nat → Nat → Nat) (mi : Nat → Nat → Int32) (ml : Nat → Nat → Int64) (mr : Nat → Nat → Option Nat), ST2 π mi ml mr A → Ev gT CL E q_law 1155 [some (.ref 0), some (.ref 1), some (.ref 285), some (.int (nI i))] [] (WW L, mi, ml, mr)) : Ev gT CL E q_law 524 [some (.ref 0), some (.ref 1), some (.ref 285), some (.int (nI i))] [] (WW L, mi, ml, mr) := by
  refine ev_aload_n (p' := 525) i_law_524 rfl rfl ?_
  refine ev_aload_n (p' := 526) i_law_525 rfl rfl ?_
  refine ev_iload_n (p' := 527) i_law_526 rfl rfl ?_
  refine ev_iconst (p' := 528) (v := nI 1) i_law_527 rfl (by decide) ?_
  refine ev_iaddN (p' := 529) i_law_528 rfl ?_
  refine ev_saldN (p' := 530) i_law_529 rfl (lawlt (by omega)) (by show L < 2 ^ 31; omega) ?_
  obtain ⟨x, A1, π1, mi1, ml1, mr1, mi2, ml2, e1, e2, h0, hS1⟩ := bothI hS (Q_seen L A hS.1 (mi 0 (i + 1)))
  refine ev_v1I (p' := 533) i_law_530 rfl cl_13_66_11 (by decide) is_1 (Nat.le_of_ble_eq_true rfl) (e1) ?_
  refine ev_aload_n (p' := 534) i_law_533 rfl rfl ?_
  refine ev_aload_n (p' := 535) i_law_534 rfl rfl ?_
  refine ev_iload_n (p' := 536) i_law_535 rfl rfl ?_
  refine ev_iconst (p' := 537) (v := nI 1) i_law_536 rfl (by decide) ?_
  refine ev_iaddN (p' := 538) i_law_537 rfl ?_
  refine ev_saldN (p' := 539) i_law_538 rfl (lawlt (by omega)) (by show L < 2 ^ 31; omega) ?_
  rw [h0]
  refine ev_v1I (p' := 542) i_law_539 rfl cl_13_69_12 (by decide) is_285 (Nat.le_of_ble_eq_true rfl) (e2) ?_
  refine ev_icmp_eq (p' := 545) (tg := 1155) i_law_542 rfl rfl (fun c542 => ?_) (fun c542 => absurd (rfl) c542)
  exact kk A1 π1 mi2 ml2 mr1 hS1
theorem law_13 {L i : Nat} {E : Option Value → pm_M → Prop} {A : AV} {π : Nat → Nat → Nat} {mi : Nat → Nat → Int32} {ml : Nat → Nat → Int64} {mr : Nat → Nat → Option Nat} (hL : L ≤ 384) (hi : i + 6 ≤ L) (hS : ST2 π mi ml mr A) (kk : ∀ (A : AV) (π : Nat → Nat → Nat) (mi : Nat → Nat → Int32) (ml : Nat → Nat → Int64) (mr : Nat → Nat → Option Nat), ST2 π mi ml mr A → Ev gT CL E q_law 1155 [some (.ref 0), some (.ref 1), some (.ref 285), some (.int (nI i))] [] (WW L, mi, ml, mr)) : Ev gT CL E q_law 547 [some (.ref 0), some (.ref 1), some (.ref 285), some (.int (nI i))] [] (WW L, mi, ml, mr) := by
  refine ev_aload_n (p' := 548) i_law_547 rfl rfl ?_
  refine ev_aload_n (p' := 549) i_law_548 rfl rfl ?_
  refine ev_iload_n (p' := 550) i_law_549 rfl rfl ?_
  refine ev_iconst (p' := 551) (v := nI 1) i_law_550 rfl (by decide) ?_
  refine ev_iaddN (p' := 552) i_law_551 rfl ?_
  refine ev_saldN (p' := 553) i_law_552 rfl (lawlt (by omega)) (by show L < 2 ^ 31; omega) ?_
  obtain ⟨x, A1, π1, mi1, ml1, mr1, mi2, ml2, e1, e2, h0, hS1⟩ := bothI hS (Q_first L A hS.1 (mi 0 (i + 1)))
  refine ev_v1I (p' := 556) i_law_553 rfl cl_13_70_11 (by decide) is_1 (Nat.le_of_ble_eq_true rfl) (e1) ?_
  refine ev_aload_n (p' := 557) i_law_556 rfl rfl ?_
  refine ev_aload_n (p' := 558) i_law_557 rfl rfl ?_
  refine ev_iload_n (p' := 559) i_law_558 rfl rfl ?_
  refine ev_iconst (p' := 560) (v := nI 1) i_law_559 rfl (by decide) ?_
  refine ev_iaddN (p' := 561) i_law_560 rfl ?_
  refine ev_saldN (p' := 562) i_law_561 rfl (lawlt (by omega)) (by show L < 2 ^ 31; omega) ?_
  rw [h0]
  refine ev_v1I (p' := 565) i_law_562 rfl cl_13_73_12 (by decide) is_285 (Nat.le_of_ble_eq_true rfl) (e2) ?_
  refine ev_icmp_eq (p' := 568) (tg := 1155) i_law_565 rfl rfl (fun c565 => ?_) (fun c565 => absurd (rfl) c565)
  exact kk A1 π1 mi2 ml2 mr1 hS1
theorem law_14 {L i : Nat} {E : Option Value → pm_M → Prop} {A : AV} {π : Nat → Nat → Nat} {mi : Nat → Nat → Int32} {ml : Nat → Nat → Int64} {mr : Nat → Nat → Option Nat} (hL : L ≤ 384) (hi : i + 6 ≤ L) (hS : ST2 π mi ml mr A) (kk : ∀ (A : AV) (π : Nat → Nat → Nat) (mi : Nat → Nat → Int32) (ml : Nat → Nat → Int64) (mr : Nat → Nat → Option Nat), ST2 π mi ml mr A → Ev gT CL E q_law 1155 [some (.ref 0), some (.ref 1), some (.ref 285), some (.int (nI i))] [] (WW L, mi, ml, mr)) : Ev gT CL E q_law 570 [some (.ref 0), some (.ref 1), some (.ref 285), some (.int (nI i))] [] (WW L, mi, ml, mr) := by
  refine ev_aload_n (p' := 571) i_law_570 rfl rfl ?_
  refine ev_aload_n (p' := 572) i_law_571 rfl rfl ?_
  refine ev_iload_n (p' := 573) i_law_572 rfl rfl ?_
  refine ev_iconst (p' := 574) (v := nI 1) i_law_573 rfl (by decide) ?_
  refine ev_iaddN (p' := 575) i_law_574 rfl ?_
  refine ev_saldN (p' := 576) i_law_575 rfl (lawlt (by omega)) (by show L < 2 ^ 31; omega) ?_
  obtain ⟨x, A1, π1, mi1, ml1, mr1, mi2, ml2, e1, e2, h0, hS1⟩ := bothI hS (Q_best L A hS.1 (mi 0 (i + 1)))
  refine ev_v1I (p' := 579) i_law_576 rfl cl_13_74_11 (by decide) is_1 (Nat.le_of_ble_eq_true rfl) (e1) ?_
  refine ev_aload_n (p' := 580) i_law_579 rfl rfl ?_
  refine ev_aload_n (p' := 581) i_law_580 rfl rfl ?_
  refine ev_iload_n (p' := 582) i_law_581 rfl rfl ?_
  refine ev_iconst (p' := 583) (v := nI 1) i_law_582 rfl (by decide) ?_
  refine ev_iaddN (p' := 584) i_law_583 rfl ?_
  refine ev_saldN (p' := 585) i_law_584 rfl (lawlt (by omega)) (by show L < 2 ^ 31; omega) ?_
  rw [h0]
  refine ev_v1I (p' := 588) i_law_585 rfl cl_13_77_12 (by decide) is_285 (Nat.le_of_ble_eq_true rfl) (e2) ?_
  refine ev_icmp_eq (p' := 591) (tg := 1155) i_law_588 rfl rfl (fun c588 => ?_) (fun c588 => absurd (rfl) c588)
  exact kk A1 π1 mi2 ml2 mr1 hS1
theorem law_15 {L i : Nat} {E : Option Value → pm_M → Prop} {A : AV} {π : Nat → Nat → Nat} {mi : Nat → Nat → Int32} {ml : Nat → Nat → Int64} {mr : Nat → Nat → Option Nat} (hL : L ≤ 384) (hi : i + 6 ≤ L) (hS : ST2 π mi ml mr A) (kk : ∀ (A : AV) (π : Nat → Nat → Nat) (mi : Nat → Nat → Int32) (ml : Nat → Nat → Int64) (mr : Nat → Nat → Option Nat), ST2 π mi ml mr A → Ev gT CL E q_law 1155 [some (.ref 0), some (.ref 1), some (.ref 285), some (.int (nI i))] [] (WW L, mi, ml, mr)) : Ev gT CL E q_law 593 [some (.ref 0), some (.ref 1), some (.ref 285), some (.int (nI i))] [] (WW L, mi, ml, mr) := by
  refine ev_aload_n (p' := 594) i_law_593 rfl rfl ?_
  refine ev_aload_n (p' := 595) i_law_594 rfl rfl ?_
  refine ev_iload_n (p' := 596) i_law_595 rfl rfl ?_
  refine ev_iconst (p' := 597) (v := nI 1) i_law_596 rfl (by decide) ?_
  refine ev_iaddN (p' := 598) i_law_597 rfl ?_
  refine ev_saldN (p' := 599) i_law_598 rfl (lawlt (by omega)) (by show L < 2 ^ 31; omega) ?_
  obtain ⟨x, A1, π1, mi1, ml1, mr1, mi2, ml2, e1, e2, h0, hS1⟩ := bothI hS (Q_out L A hS.1 (mi 0 (i + 1)))
  refine ev_v1I (p' := 602) i_law_599 rfl cl_13_78_11 (by decide) is_1 (Nat.le_of_ble_eq_true rfl) (e1) ?_
  refine ev_aload_n (p' := 603) i_law_602 rfl rfl ?_
  refine ev_aload_n (p' := 604) i_law_603 rfl rfl ?_
  refine ev_iload_n (p' := 605) i_law_604 rfl rfl ?_
  refine ev_iconst (p' := 606) (v := nI 1) i_law_605 rfl (by decide) ?_
  refine ev_iaddN (p' := 607) i_law_606 rfl ?_
  refine ev_saldN (p' := 608) i_law_607 rfl (lawlt (by omega)) (by show L < 2 ^ 31; omega) ?_
  rw [h0]
  refine ev_v1I (p' := 611) i_law_608 rfl cl_13_81_12 (by decide) is_285 (Nat.le_of_ble_eq_true rfl) (e2) ?_
  refine ev_icmp_eq (p' := 614) (tg := 1155) i_law_611 rfl rfl (fun c611 => ?_) (fun c611 => absurd (rfl) c611)
  exact kk A1 π1 mi2 ml2 mr1 hS1
theorem law_16 {L i : Nat} {E : Option Value → pm_M → Prop} {A : AV} {π : Nat → Nat → Nat} {mi : Nat → Nat → Int32} {ml : Nat → Nat → Int64} {mr : Nat → Nat → Option Nat} (hL : L ≤ 384) (hi : i + 6 ≤ L) (hS : ST2 π mi ml mr A) (kk : ∀ (A : AV) (π : Nat → Nat → Nat) (mi : Nat → Nat → Int32) (ml : Nat → Nat → Int64) (mr : Nat → Nat → Option Nat), ST2 π mi ml mr A → Ev gT CL E q_law 1155 [some (.ref 0), some (.ref 1), some (.ref 285), some (.int (nI i))] [] (WW L, mi, ml, mr)) : Ev gT CL E q_law 616 [some (.ref 0), some (.ref 1), some (.ref 285), some (.int (nI i))] [] (WW L, mi, ml, mr) := by
  refine ev_aload_n (p' := 617) i_law_616 rfl rfl ?_
  refine ev_aload_n (p' := 618) i_law_617 rfl rfl ?_
  refine ev_iload_n (p' := 619) i_law_618 rfl rfl ?_
  refine ev_iconst (p' := 620) (v := nI 1) i_law_619 rfl (by decide) ?_
  refine ev_iaddN (p' := 621) i_law_620 rfl ?_
  refine ev_saldN (p' := 622) i_law_621 rfl (lawlt (by omega)) (by show L < 2 ^ 31; omega) ?_
  refine ev_aload_n (p' := 623) i_law_622 rfl rfl ?_
  refine ev_iload_n (p' := 624) i_law_623 rfl rfl ?_
  refine ev_iconst (p' := 625) (v := nI 2) i_law_624 rfl (by decide) ?_
  refine ev_iaddN (p' := 626) i_law_625 rfl ?_
  refine ev_saldN (p' := 627) i_law_626 rfl (lawlt (by omega)) (by show L < 2 ^ 31; omega) ?_
  obtain ⟨x, A1, π1, mi1, ml1, mr1, mi2, ml2, e1, e2, h0, hS1⟩ := bothI hS (Q_tour L A hS.1 (mi 0 (i + 1)) (mi 0 (i + 2)))
  refine ev_v2I (p' := 630) i_law_627 rfl cl_13_82_11 (by decide) is_1 (Nat.le_of_ble_eq_true rfl) (e1) ?_
  refine ev_aload_n (p' := 631) i_law_630 rfl rfl ?_
  refine ev_aload_n (p' := 632) i_law_631 rfl rfl ?_
  refine ev_iload_n (p' := 633) i_law_632 rfl rfl ?_
  refine ev_iconst (p' := 634) (v := nI 1) i_law_633 rfl (by decide) ?_
  refine ev_iaddN (p' := 635) i_law_634 rfl ?_
  refine ev_saldN (p' := 636) i_law_635 rfl (lawlt (by omega)) (by show L < 2 ^ 31; omega) ?_
  refine ev_aload_n (p' := 637) i_law_636 rfl rfl ?_
  refine ev_iload_n (p' := 638) i_law_637 rfl rfl ?_
  refine ev_iconst (p' := 639) (v := nI 2) i_law_638 rfl (by decide) ?_
  refine ev_iaddN (p' := 640) i_law_639 rfl ?_
  refine ev_saldN (p' := 641) i_law_640 rfl (lawlt (by omega)) (by show L < 2 ^ 31; omega) ?_
  rw [h0]
  refine ev_v2I (p' := 644) i_law_641 rfl cl_13_85_12 (by decide) is_285 (Nat.le_of_ble_eq_true rfl) (e2) ?_
  refine ev_icmp_eq (p' := 647) (tg := 1155) i_law_644 rfl rfl (fun c644 => ?_) (fun c644 => absurd (rfl) c644)
  exact kk A1 π1 mi2 ml2 mr1 hS1
theorem law_17 {L i : Nat} {E : Option Value → pm_M → Prop} {A : AV} {π : Nat → Nat → Nat} {mi : Nat → Nat → Int32} {ml : Nat → Nat → Int64} {mr : Nat → Nat → Option Nat} (hL : L ≤ 384) (hi : i + 6 ≤ L) (hS : ST2 π mi ml mr A) (kk : ∀ (A : AV) (π : Nat → Nat → Nat) (mi : Nat → Nat → Int32) (ml : Nat → Nat → Int64) (mr : Nat → Nat → Option Nat), ST2 π mi ml mr A → Ev gT CL E q_law 1155 [some (.ref 0), some (.ref 1), some (.ref 285), some (.int (nI i))] [] (WW L, mi, ml, mr)) : Ev gT CL E q_law 649 [some (.ref 0), some (.ref 1), some (.ref 285), some (.int (nI i))] [] (WW L, mi, ml, mr) := by
  refine ev_aload_n (p' := 650) i_law_649 rfl rfl ?_
  refine ev_aload_n (p' := 651) i_law_650 rfl rfl ?_
  refine ev_iload_n (p' := 652) i_law_651 rfl rfl ?_
  refine ev_iconst (p' := 653) (v := nI 1) i_law_652 rfl (by decide) ?_
  refine ev_iaddN (p' := 654) i_law_653 rfl ?_
  refine ev_saldN (p' := 655) i_law_654 rfl (lawlt (by omega)) (by show L < 2 ^ 31; omega) ?_
  refine ev_aload_n (p' := 656) i_law_655 rfl rfl ?_
  refine ev_iload_n (p' := 657) i_law_656 rfl rfl ?_
  refine ev_iconst (p' := 658) (v := nI 2) i_law_657 rfl (by decide) ?_
  refine ev_iaddN (p' := 659) i_law_658 rfl ?_
  refine ev_saldN (p' := 660) i_law_659 rfl (lawlt (by omega)) (by show L < 2 ^ 31; omega) ?_
  refine ev_aload_n (p' := 661) i_law_660 rfl rfl ?_
  refine ev_iload_n (p' := 662) i_law_661 rfl rfl ?_
  refine ev_iconst (p' := 663) (v := nI 3) i_law_662 rfl (by decide) ?_
  refine ev_iaddN (p' := 664) i_law_663 rfl ?_
  refine ev_saldN (p' := 665) i_law_664 rfl (lawlt (by omega)) (by show L < 2 ^ 31; omega) ?_
  obtain ⟨x, A1, π1, mi1, ml1, mr1, mi2, ml2, e1, e2, h0, hS1⟩ := bothI hS (Q_place L A hS.1 (mi 0 (i + 1)) (mi 0 (i + 2)) (mi 0 (i + 3)))
  refine ev_v3I (p' := 668) i_law_665 rfl cl_13_86_11 (by decide) is_1 (Nat.le_of_ble_eq_true rfl) (e1) ?_
  refine ev_aload_n (p' := 669) i_law_668 rfl rfl ?_
  refine ev_aload_n (p' := 670) i_law_669 rfl rfl ?_
  refine ev_iload_n (p' := 671) i_law_670 rfl rfl ?_
  refine ev_iconst (p' := 672) (v := nI 1) i_law_671 rfl (by decide) ?_
  refine ev_iaddN (p' := 673) i_law_672 rfl ?_
  refine ev_saldN (p' := 674) i_law_673 rfl (lawlt (by omega)) (by show L < 2 ^ 31; omega) ?_
  refine ev_aload_n (p' := 675) i_law_674 rfl rfl ?_
  refine ev_iload_n (p' := 676) i_law_675 rfl rfl ?_
  refine ev_iconst (p' := 677) (v := nI 2) i_law_676 rfl (by decide) ?_
  refine ev_iaddN (p' := 678) i_law_677 rfl ?_
  refine ev_saldN (p' := 679) i_law_678 rfl (lawlt (by omega)) (by show L < 2 ^ 31; omega) ?_
  refine ev_aload_n (p' := 680) i_law_679 rfl rfl ?_
  refine ev_iload_n (p' := 681) i_law_680 rfl rfl ?_
  refine ev_iconst (p' := 682) (v := nI 3) i_law_681 rfl (by decide) ?_
  refine ev_iaddN (p' := 683) i_law_682 rfl ?_
  refine ev_saldN (p' := 684) i_law_683 rfl (lawlt (by omega)) (by show L < 2 ^ 31; omega) ?_
  rw [h0]
  refine ev_v3I (p' := 687) i_law_684 rfl cl_13_89_12 (by decide) is_285 (Nat.le_of_ble_eq_true rfl) (e2) ?_
  refine ev_icmp_eq (p' := 690) (tg := 1155) i_law_687 rfl rfl (fun c687 => ?_) (fun c687 => absurd (rfl) c687)
  exact kk A1 π1 mi2 ml2 mr1 hS1
theorem law_18 {L i : Nat} {E : Option Value → pm_M → Prop} {A : AV} {π : Nat → Nat → Nat} {mi : Nat → Nat → Int32} {ml : Nat → Nat → Int64} {mr : Nat → Nat → Option Nat} (hL : L ≤ 384) (hi : i + 6 ≤ L) (hS : ST2 π mi ml mr A) (kk : ∀ (A : AV) (π : Nat → Nat → Nat) (mi : Nat → Nat → Int32) (ml : Nat → Nat → Int64) (mr : Nat → Nat → Option Nat), ST2 π mi ml mr A → Ev gT CL E q_law 1155 [some (.ref 0), some (.ref 1), some (.ref 285), some (.int (nI i))] [] (WW L, mi, ml, mr)) : Ev gT CL E q_law 692 [some (.ref 0), some (.ref 1), some (.ref 285), some (.int (nI i))] [] (WW L, mi, ml, mr) := by
  refine ev_aload_n (p' := 693) i_law_692 rfl rfl ?_
  obtain ⟨x, A1, π1, mi1, ml1, mr1, mi2, ml2, e1, e2, h0, hS1⟩ := bothI hS (Q_lasts L A hS.1)
  refine ev_v0I (p' := 696) i_law_693 rfl cl_13_90_11 (by decide) is_1 (Nat.le_of_ble_eq_true rfl) (e1) ?_
  refine ev_aload_n (p' := 697) i_law_696 rfl rfl ?_
  skip
  refine ev_v0I (p' := 700) i_law_697 rfl cl_13_93_12 (by decide) is_285 (Nat.le_of_ble_eq_true rfl) (e2) ?_
  refine ev_icmp_eq (p' := 703) (tg := 1155) i_law_700 rfl rfl (fun c700 => ?_) (fun c700 => absurd (rfl) c700)
  exact kk A1 π1 mi2 ml2 mr1 hS1
theorem law_19 {L i : Nat} {E : Option Value → pm_M → Prop} {A : AV} {π : Nat → Nat → Nat} {mi : Nat → Nat → Int32} {ml : Nat → Nat → Int64} {mr : Nat → Nat → Option Nat} (hL : L ≤ 384) (hi : i + 6 ≤ L) (hS : ST2 π mi ml mr A) (kk : ∀ (A : AV) (π : Nat → Nat → Nat) (mi : Nat → Nat → Int32) (ml : Nat → Nat → Int64) (mr : Nat → Nat → Option Nat), ST2 π mi ml mr A → Ev gT CL E q_law 1155 [some (.ref 0), some (.ref 1), some (.ref 285), some (.int (nI i))] [] (WW L, mi, ml, mr)) : Ev gT CL E q_law 705 [some (.ref 0), some (.ref 1), some (.ref 285), some (.int (nI i))] [] (WW L, mi, ml, mr) := by
  refine ev_aload_n (p' := 706) i_law_705 rfl rfl ?_
  refine ev_aload_n (p' := 707) i_law_706 rfl rfl ?_
  refine ev_iload_n (p' := 708) i_law_707 rfl rfl ?_
  refine ev_iconst (p' := 709) (v := nI 1) i_law_708 rfl (by decide) ?_
  refine ev_iaddN (p' := 710) i_law_709 rfl ?_
  refine ev_saldN (p' := 711) i_law_710 rfl (lawlt (by omega)) (by show L < 2 ^ 31; omega) ?_
  refine ev_aload_n (p' := 712) i_law_711 rfl rfl ?_
  refine ev_iload_n (p' := 713) i_law_712 rfl rfl ?_
  refine ev_iconst (p' := 714) (v := nI 2) i_law_713 rfl (by decide) ?_
  refine ev_iaddN (p' := 715) i_law_714 rfl ?_
  refine ev_saldN (p' := 716) i_law_715 rfl (lawlt (by omega)) (by show L < 2 ^ 31; omega) ?_
  obtain ⟨x, A1, π1, mi1, ml1, mr1, mi2, ml2, e1, e2, h0, hS1⟩ := bothI hS (Q_turns L A hS.1 (mi 0 (i + 1)) (mi 0 (i + 2)))
  refine ev_v2I (p' := 719) i_law_716 rfl cl_13_94_11 (by decide) is_1 (Nat.le_of_ble_eq_true rfl) (e1) ?_
  refine ev_aload_n (p' := 720) i_law_719 rfl rfl ?_
  refine ev_aload_n (p' := 721) i_law_720 rfl rfl ?_
  refine ev_iload_n (p' := 722) i_law_721 rfl rfl ?_
  refine ev_iconst (p' := 723) (v := nI 1) i_law_722 rfl (by decide) ?_
  refine ev_iaddN (p' := 724) i_law_723 rfl ?_
  refine ev_saldN (p' := 725) i_law_724 rfl (lawlt (by omega)) (by show L < 2 ^ 31; omega) ?_
  refine ev_aload_n (p' := 726) i_law_725 rfl rfl ?_
  refine ev_iload_n (p' := 727) i_law_726 rfl rfl ?_
  refine ev_iconst (p' := 728) (v := nI 2) i_law_727 rfl (by decide) ?_
  refine ev_iaddN (p' := 729) i_law_728 rfl ?_
  refine ev_saldN (p' := 730) i_law_729 rfl (lawlt (by omega)) (by show L < 2 ^ 31; omega) ?_
  rw [h0]
  refine ev_v2I (p' := 733) i_law_730 rfl cl_13_97_12 (by decide) is_285 (Nat.le_of_ble_eq_true rfl) (e2) ?_
  refine ev_icmp_eq (p' := 736) (tg := 1155) i_law_733 rfl rfl (fun c733 => ?_) (fun c733 => absurd (rfl) c733)
  exact kk A1 π1 mi2 ml2 mr1 hS1
theorem law_20 {L i : Nat} {E : Option Value → pm_M → Prop} {A : AV} {π : Nat → Nat → Nat} {mi : Nat → Nat → Int32} {ml : Nat → Nat → Int64} {mr : Nat → Nat → Option Nat} (hL : L ≤ 384) (hi : i + 6 ≤ L) (hS : ST2 π mi ml mr A) (kk : ∀ (A : AV) (π : Nat → Nat → Nat) (mi : Nat → Nat → Int32) (ml : Nat → Nat → Int64) (mr : Nat → Nat → Option Nat), ST2 π mi ml mr A → Ev gT CL E q_law 1155 [some (.ref 0), some (.ref 1), some (.ref 285), some (.int (nI i))] [] (WW L, mi, ml, mr)) : Ev gT CL E q_law 738 [some (.ref 0), some (.ref 1), some (.ref 285), some (.int (nI i))] [] (WW L, mi, ml, mr) := by
  refine ev_aload_n (p' := 739) i_law_738 rfl rfl ?_
  refine ev_aload_n (p' := 740) i_law_739 rfl rfl ?_
  refine ev_iload_n (p' := 741) i_law_740 rfl rfl ?_
  refine ev_iconst (p' := 742) (v := nI 1) i_law_741 rfl (by decide) ?_
  refine ev_iaddN (p' := 743) i_law_742 rfl ?_
  refine ev_saldN (p' := 744) i_law_743 rfl (lawlt (by omega)) (by show L < 2 ^ 31; omega) ?_
  refine ev_aload_n (p' := 745) i_law_744 rfl rfl ?_
  refine ev_iload_n (p' := 746) i_law_745 rfl rfl ?_
  refine ev_iconst (p' := 747) (v := nI 2) i_law_746 rfl (by decide) ?_
  refine ev_iaddN (p' := 748) i_law_747 rfl ?_
  refine ev_saldN (p' := 749) i_law_748 rfl (lawlt (by omega)) (by show L < 2 ^ 31; omega) ?_
  refine ev_aload_n (p' := 750) i_law_749 rfl rfl ?_
  refine ev_iload_n (p' := 751) i_law_750 rfl rfl ?_
  refine ev_iconst (p' := 752) (v := nI 3) i_law_751 rfl (by decide) ?_
  refine ev_iaddN (p' := 753) i_law_752 rfl ?_
  refine ev_saldN (p' := 754) i_law_753 rfl (lawlt (by omega)) (by show L < 2 ^ 31; omega) ?_
  refine ev_aload_n (p' := 755) i_law_754 rfl rfl ?_
  refine ev_iload_n (p' := 756) i_law_755 rfl rfl ?_
  refine ev_iconst (p' := 757) (v := nI 4) i_law_756 rfl (by decide) ?_
  refine ev_iaddN (p' := 758) i_law_757 rfl ?_
  refine ev_saldN (p' := 759) i_law_758 rfl (lawlt (by omega)) (by show L < 2 ^ 31; omega) ?_
  refine ev_aload_n (p' := 760) i_law_759 rfl rfl ?_
  refine ev_iload_n (p' := 761) i_law_760 rfl rfl ?_
  refine ev_iconst (p' := 762) (v := nI 5) i_law_761 rfl (by decide) ?_
  refine ev_iaddN (p' := 763) i_law_762 rfl ?_
  refine ev_saldN (p' := 764) i_law_763 rfl (lawlt (by omega)) (by show L < 2 ^ 31; omega) ?_
  obtain ⟨x, A1, π1, mi1, ml1, mr1, mi2, ml2, e1, e2, h0, hS1⟩ := bothI hS (Q_note L A hS.1 (mi 0 (i + 1)) (mi 0 (i + 2)) (mi 0 (i + 3)) (mi 0 (i + 4)) (mi 0 (i + 5)))
  refine ev_v5I (p' := 767) i_law_764 rfl cl_13_98_11 (by decide) is_1 (Nat.le_of_ble_eq_true rfl) (e1) ?_
  refine ev_aload_n (p' := 768) i_law_767 rfl rfl ?_
  refine ev_aload_n (p' := 769) i_law_768 rfl rfl ?_
  refine ev_iload_n (p' := 770) i_law_769 rfl rfl ?_
  refine ev_iconst (p' := 771) (v := nI 1) i_law_770 rfl (by decide) ?_
  refine ev_iaddN (p' := 772) i_law_771 rfl ?_
  refine ev_saldN (p' := 773) i_law_772 rfl (lawlt (by omega)) (by show L < 2 ^ 31; omega) ?_
  refine ev_aload_n (p' := 774) i_law_773 rfl rfl ?_
  refine ev_iload_n (p' := 775) i_law_774 rfl rfl ?_
  refine ev_iconst (p' := 776) (v := nI 2) i_law_775 rfl (by decide) ?_
  refine ev_iaddN (p' := 777) i_law_776 rfl ?_
  refine ev_saldN (p' := 778) i_law_777 rfl (lawlt (by omega)) (by show L < 2 ^ 31; omega) ?_
  refine ev_aload_n (p' := 779) i_law_778 rfl rfl ?_
  refine ev_iload_n (p' := 780) i_law_779 rfl rfl ?_
  refine ev_iconst (p' := 781) (v := nI 3) i_law_780 rfl (by decide) ?_
  refine ev_iaddN (p' := 782) i_law_781 rfl ?_
  refine ev_saldN (p' := 783) i_law_782 rfl (lawlt (by omega)) (by show L < 2 ^ 31; omega) ?_
  refine ev_aload_n (p' := 784) i_law_783 rfl rfl ?_
  refine ev_iload_n (p' := 785) i_law_784 rfl rfl ?_
  refine ev_iconst (p' := 786) (v := nI 4) i_law_785 rfl (by decide) ?_
  refine ev_iaddN (p' := 787) i_law_786 rfl ?_
  refine ev_saldN (p' := 788) i_law_787 rfl (lawlt (by omega)) (by show L < 2 ^ 31; omega) ?_
  refine ev_aload_n (p' := 789) i_law_788 rfl rfl ?_
  refine ev_iload_n (p' := 790) i_law_789 rfl rfl ?_
  refine ev_iconst (p' := 791) (v := nI 5) i_law_790 rfl (by decide) ?_
  refine ev_iaddN (p' := 792) i_law_791 rfl ?_
  refine ev_saldN (p' := 793) i_law_792 rfl (lawlt (by omega)) (by show L < 2 ^ 31; omega) ?_
  rw [h0]
  refine ev_v5I (p' := 796) i_law_793 rfl cl_13_101_12 (by decide) is_285 (Nat.le_of_ble_eq_true rfl) (e2) ?_
  refine ev_icmp_eq (p' := 799) (tg := 1155) i_law_796 rfl rfl (fun c796 => ?_) (fun c796 => absurd (rfl) c796)
  exact kk A1 π1 mi2 ml2 mr1 hS1
theorem law_21 {L i : Nat} {E : Option Value → pm_M → Prop} {A : AV} {π : Nat → Nat → Nat} {mi : Nat → Nat → Int32} {ml : Nat → Nat → Int64} {mr : Nat → Nat → Option Nat} (hL : L ≤ 384) (hi : i + 6 ≤ L) (hS : ST2 π mi ml mr A) (kk : ∀ (A : AV) (π : Nat → Nat → Nat) (mi : Nat → Nat → Int32) (ml : Nat → Nat → Int64) (mr : Nat → Nat → Option Nat), ST2 π mi ml mr A → Ev gT CL E q_law 1155 [some (.ref 0), some (.ref 1), some (.ref 285), some (.int (nI i))] [] (WW L, mi, ml, mr)) : Ev gT CL E q_law 801 [some (.ref 0), some (.ref 1), some (.ref 285), some (.int (nI i))] [] (WW L, mi, ml, mr) := by
  refine ev_aload_n (p' := 802) i_law_801 rfl rfl ?_
  refine ev_aload_n (p' := 803) i_law_802 rfl rfl ?_
  refine ev_iload_n (p' := 804) i_law_803 rfl rfl ?_
  refine ev_iconst (p' := 805) (v := nI 1) i_law_804 rfl (by decide) ?_
  refine ev_iaddN (p' := 806) i_law_805 rfl ?_
  refine ev_saldN (p' := 807) i_law_806 rfl (lawlt (by omega)) (by show L < 2 ^ 31; omega) ?_
  refine ev_aload_n (p' := 808) i_law_807 rfl rfl ?_
  refine ev_iload_n (p' := 809) i_law_808 rfl rfl ?_
  refine ev_iconst (p' := 810) (v := nI 2) i_law_809 rfl (by decide) ?_
  refine ev_iaddN (p' := 811) i_law_810 rfl ?_
  refine ev_saldN (p' := 812) i_law_811 rfl (lawlt (by omega)) (by show L < 2 ^ 31; omega) ?_
  obtain ⟨x, A1, π1, mi1, ml1, mr1, mi2, ml2, e1, e2, h0, hS1⟩ := bothI hS (Q_stood L A hS.1 (mi 0 (i + 1)) (mi 0 (i + 2)))
  refine ev_v2I (p' := 815) i_law_812 rfl cl_13_102_11 (by decide) is_1 (Nat.le_of_ble_eq_true rfl) (e1) ?_
  refine ev_aload_n (p' := 816) i_law_815 rfl rfl ?_
  refine ev_aload_n (p' := 817) i_law_816 rfl rfl ?_
  refine ev_iload_n (p' := 818) i_law_817 rfl rfl ?_
  refine ev_iconst (p' := 819) (v := nI 1) i_law_818 rfl (by decide) ?_
  refine ev_iaddN (p' := 820) i_law_819 rfl ?_
  refine ev_saldN (p' := 821) i_law_820 rfl (lawlt (by omega)) (by show L < 2 ^ 31; omega) ?_
  refine ev_aload_n (p' := 822) i_law_821 rfl rfl ?_
  refine ev_iload_n (p' := 823) i_law_822 rfl rfl ?_
  refine ev_iconst (p' := 824) (v := nI 2) i_law_823 rfl (by decide) ?_
  refine ev_iaddN (p' := 825) i_law_824 rfl ?_
  refine ev_saldN (p' := 826) i_law_825 rfl (lawlt (by omega)) (by show L < 2 ^ 31; omega) ?_
  rw [h0]
  refine ev_v2I (p' := 829) i_law_826 rfl cl_13_105_12 (by decide) is_285 (Nat.le_of_ble_eq_true rfl) (e2) ?_
  refine ev_icmp_eq (p' := 832) (tg := 1155) i_law_829 rfl rfl (fun c829 => ?_) (fun c829 => absurd (rfl) c829)
  exact kk A1 π1 mi2 ml2 mr1 hS1
theorem law_22 {L i : Nat} {E : Option Value → pm_M → Prop} {A : AV} {π : Nat → Nat → Nat} {mi : Nat → Nat → Int32} {ml : Nat → Nat → Int64} {mr : Nat → Nat → Option Nat} (hL : L ≤ 384) (hi : i + 6 ≤ L) (hS : ST2 π mi ml mr A) (kk : ∀ (A : AV) (π : Nat → Nat → Nat) (mi : Nat → Nat → Int32) (ml : Nat → Nat → Int64) (mr : Nat → Nat → Option Nat), ST2 π mi ml mr A → Ev gT CL E q_law 1155 [some (.ref 0), some (.ref 1), some (.ref 285), some (.int (nI i))] [] (WW L, mi, ml, mr)) : Ev gT CL E q_law 834 [some (.ref 0), some (.ref 1), some (.ref 285), some (.int (nI i))] [] (WW L, mi, ml, mr) := by
  refine ev_aload_n (p' := 835) i_law_834 rfl rfl ?_
  refine ev_aload_n (p' := 836) i_law_835 rfl rfl ?_
  refine ev_iload_n (p' := 837) i_law_836 rfl rfl ?_
  refine ev_iconst (p' := 838) (v := nI 1) i_law_837 rfl (by decide) ?_
  refine ev_iaddN (p' := 839) i_law_838 rfl ?_
  refine ev_saldN (p' := 840) i_law_839 rfl (lawlt (by omega)) (by show L < 2 ^ 31; omega) ?_
  obtain ⟨x, A1, π1, mi1, ml1, mr1, mi2, ml2, e1, e2, h0, hS1⟩ := bothI hS (Q_forget L A hS.1 (mi 0 (i + 1)))
  refine ev_v1I (p' := 843) i_law_840 rfl cl_13_106_11 (by decide) is_1 (Nat.le_of_ble_eq_true rfl) (e1) ?_
  refine ev_aload_n (p' := 844) i_law_843 rfl rfl ?_
  refine ev_aload_n (p' := 845) i_law_844 rfl rfl ?_
  refine ev_iload_n (p' := 846) i_law_845 rfl rfl ?_
  refine ev_iconst (p' := 847) (v := nI 1) i_law_846 rfl (by decide) ?_
  refine ev_iaddN (p' := 848) i_law_847 rfl ?_
  refine ev_saldN (p' := 849) i_law_848 rfl (lawlt (by omega)) (by show L < 2 ^ 31; omega) ?_
  rw [h0]
  refine ev_v1I (p' := 852) i_law_849 rfl cl_13_109_12 (by decide) is_285 (Nat.le_of_ble_eq_true rfl) (e2) ?_
  refine ev_icmp_eq (p' := 855) (tg := 1155) i_law_852 rfl rfl (fun c852 => ?_) (fun c852 => absurd (rfl) c852)
  exact kk A1 π1 mi2 ml2 mr1 hS1
theorem law_23 {L i : Nat} {E : Option Value → pm_M → Prop} {A : AV} {π : Nat → Nat → Nat} {mi : Nat → Nat → Int32} {ml : Nat → Nat → Int64} {mr : Nat → Nat → Option Nat} (hL : L ≤ 384) (hi : i + 6 ≤ L) (hS : ST2 π mi ml mr A) (kk : ∀ (A : AV) (π : Nat → Nat → Nat) (mi : Nat → Nat → Int32) (ml : Nat → Nat → Int64) (mr : Nat → Nat → Option Nat), ST2 π mi ml mr A → Ev gT CL E q_law 1155 [some (.ref 0), some (.ref 1), some (.ref 285), some (.int (nI i))] [] (WW L, mi, ml, mr)) : Ev gT CL E q_law 857 [some (.ref 0), some (.ref 1), some (.ref 285), some (.int (nI i))] [] (WW L, mi, ml, mr) := by
  refine ev_aload_n (p' := 858) i_law_857 rfl rfl ?_
  refine ev_aload_n (p' := 859) i_law_858 rfl rfl ?_
  refine ev_iload_n (p' := 860) i_law_859 rfl rfl ?_
  refine ev_iconst (p' := 861) (v := nI 1) i_law_860 rfl (by decide) ?_
  refine ev_iaddN (p' := 862) i_law_861 rfl ?_
  refine ev_saldN (p' := 863) i_law_862 rfl (lawlt (by omega)) (by show L < 2 ^ 31; omega) ?_
  obtain ⟨x, A1, π1, mi1, ml1, mr1, mi2, ml2, e1, e2, h0, hS1⟩ := bothI hS (Q_is L A hS.1 (mi 0 (i + 1)))
  refine ev_v1I (p' := 866) i_law_863 rfl cl_13_110_11 (by decide) is_1 (Nat.le_of_ble_eq_true rfl) (e1) ?_
  refine ev_aload_n (p' := 867) i_law_866 rfl rfl ?_
  refine ev_aload_n (p' := 868) i_law_867 rfl rfl ?_
  refine ev_iload_n (p' := 869) i_law_868 rfl rfl ?_
  refine ev_iconst (p' := 870) (v := nI 1) i_law_869 rfl (by decide) ?_
  refine ev_iaddN (p' := 871) i_law_870 rfl ?_
  refine ev_saldN (p' := 872) i_law_871 rfl (lawlt (by omega)) (by show L < 2 ^ 31; omega) ?_
  rw [h0]
  refine ev_v1I (p' := 875) i_law_872 rfl cl_13_113_12 (by decide) is_285 (Nat.le_of_ble_eq_true rfl) (e2) ?_
  refine ev_icmp_eq (p' := 878) (tg := 1155) i_law_875 rfl rfl (fun c875 => ?_) (fun c875 => absurd (rfl) c875)
  exact kk A1 π1 mi2 ml2 mr1 hS1
theorem law_24 {L i : Nat} {E : Option Value → pm_M → Prop} {A : AV} {π : Nat → Nat → Nat} {mi : Nat → Nat → Int32} {ml : Nat → Nat → Int64} {mr : Nat → Nat → Option Nat} (hL : L ≤ 384) (hi : i + 6 ≤ L) (hS : ST2 π mi ml mr A) (kk : ∀ (A : AV) (π : Nat → Nat → Nat) (mi : Nat → Nat → Int32) (ml : Nat → Nat → Int64) (mr : Nat → Nat → Option Nat), ST2 π mi ml mr A → Ev gT CL E q_law 1155 [some (.ref 0), some (.ref 1), some (.ref 285), some (.int (nI i))] [] (WW L, mi, ml, mr)) : Ev gT CL E q_law 880 [some (.ref 0), some (.ref 1), some (.ref 285), some (.int (nI i))] [] (WW L, mi, ml, mr) := by
  refine ev_aload_n (p' := 881) i_law_880 rfl rfl ?_
  refine ev_aload_n (p' := 882) i_law_881 rfl rfl ?_
  refine ev_iload_n (p' := 883) i_law_882 rfl rfl ?_
  refine ev_iconst (p' := 884) (v := nI 1) i_law_883 rfl (by decide) ?_
  refine ev_iaddN (p' := 885) i_law_884 rfl ?_
  refine ev_saldN (p' := 886) i_law_885 rfl (lawlt (by omega)) (by show L < 2 ^ 31; omega) ?_
  obtain ⟨x, A1, π1, mi1, ml1, mr1, mi2, ml2, e1, e2, h0, hS1⟩ := bothI hS (Q_look L A hS.1 (mi 0 (i + 1)))
  refine ev_v1I (p' := 889) i_law_886 rfl cl_13_114_11 (by decide) is_1 (Nat.le_of_ble_eq_true rfl) (e1) ?_
  refine ev_aload_n (p' := 890) i_law_889 rfl rfl ?_
  refine ev_aload_n (p' := 891) i_law_890 rfl rfl ?_
  refine ev_iload_n (p' := 892) i_law_891 rfl rfl ?_
  refine ev_iconst (p' := 893) (v := nI 1) i_law_892 rfl (by decide) ?_
  refine ev_iaddN (p' := 894) i_law_893 rfl ?_
  refine ev_saldN (p' := 895) i_law_894 rfl (lawlt (by omega)) (by show L < 2 ^ 31; omega) ?_
  rw [h0]
  refine ev_v1I (p' := 898) i_law_895 rfl cl_13_117_12 (by decide) is_285 (Nat.le_of_ble_eq_true rfl) (e2) ?_
  refine ev_icmp_eq (p' := 901) (tg := 1155) i_law_898 rfl rfl (fun c898 => ?_) (fun c898 => absurd (rfl) c898)
  exact kk A1 π1 mi2 ml2 mr1 hS1
theorem law_25 {L i : Nat} {E : Option Value → pm_M → Prop} {A : AV} {π : Nat → Nat → Nat} {mi : Nat → Nat → Int32} {ml : Nat → Nat → Int64} {mr : Nat → Nat → Option Nat} (hL : L ≤ 384) (hi : i + 6 ≤ L) (hS : ST2 π mi ml mr A) (kk : ∀ (A : AV) (π : Nat → Nat → Nat) (mi : Nat → Nat → Int32) (ml : Nat → Nat → Int64) (mr : Nat → Nat → Option Nat), ST2 π mi ml mr A → Ev gT CL E q_law 1155 [some (.ref 0), some (.ref 1), some (.ref 285), some (.int (nI i))] [] (WW L, mi, ml, mr)) : Ev gT CL E q_law 903 [some (.ref 0), some (.ref 1), some (.ref 285), some (.int (nI i))] [] (WW L, mi, ml, mr) := by
  refine ev_aload_n (p' := 904) i_law_903 rfl rfl ?_
  refine ev_aload_n (p' := 905) i_law_904 rfl rfl ?_
  refine ev_iload_n (p' := 906) i_law_905 rfl rfl ?_
  refine ev_iconst (p' := 907) (v := nI 1) i_law_906 rfl (by decide) ?_
  refine ev_iaddN (p' := 908) i_law_907 rfl ?_
  refine ev_saldN (p' := 909) i_law_908 rfl (lawlt (by omega)) (by show L < 2 ^ 31; omega) ?_
  refine ev_aload_n (p' := 910) i_law_909 rfl rfl ?_
  refine ev_iload_n (p' := 911) i_law_910 rfl rfl ?_
  refine ev_iconst (p' := 912) (v := nI 2) i_law_911 rfl (by decide) ?_
  refine ev_iaddN (p' := 913) i_law_912 rfl ?_
  refine ev_saldN (p' := 914) i_law_913 rfl (lawlt (by omega)) (by show L < 2 ^ 31; omega) ?_
  obtain ⟨x, A1, π1, mi1, ml1, mr1, mi2, ml2, e1, e2, h0, hS1⟩ := bothI hS (Q_where L A hS.1 (mi 0 (i + 1)) (mi 0 (i + 2)))
  refine ev_v2I (p' := 917) i_law_914 rfl cl_13_118_11 (by decide) is_1 (Nat.le_of_ble_eq_true rfl) (e1) ?_
  refine ev_aload_n (p' := 918) i_law_917 rfl rfl ?_
  refine ev_aload_n (p' := 919) i_law_918 rfl rfl ?_
  refine ev_iload_n (p' := 920) i_law_919 rfl rfl ?_
  refine ev_iconst (p' := 921) (v := nI 1) i_law_920 rfl (by decide) ?_
  refine ev_iaddN (p' := 922) i_law_921 rfl ?_
  refine ev_saldN (p' := 923) i_law_922 rfl (lawlt (by omega)) (by show L < 2 ^ 31; omega) ?_
  refine ev_aload_n (p' := 924) i_law_923 rfl rfl ?_
  refine ev_iload_n (p' := 925) i_law_924 rfl rfl ?_
  refine ev_iconst (p' := 926) (v := nI 2) i_law_925 rfl (by decide) ?_
  refine ev_iaddN (p' := 927) i_law_926 rfl ?_
  refine ev_saldN (p' := 928) i_law_927 rfl (lawlt (by omega)) (by show L < 2 ^ 31; omega) ?_
  rw [h0]
  refine ev_v2I (p' := 931) i_law_928 rfl cl_13_121_12 (by decide) is_285 (Nat.le_of_ble_eq_true rfl) (e2) ?_
  refine ev_icmp_eq (p' := 934) (tg := 1155) i_law_931 rfl rfl (fun c931 => ?_) (fun c931 => absurd (rfl) c931)
  exact kk A1 π1 mi2 ml2 mr1 hS1
theorem law_26 {L i : Nat} {E : Option Value → pm_M → Prop} {A : AV} {π : Nat → Nat → Nat} {mi : Nat → Nat → Int32} {ml : Nat → Nat → Int64} {mr : Nat → Nat → Option Nat} (hL : L ≤ 384) (hi : i + 6 ≤ L) (hS : ST2 π mi ml mr A) (kk : ∀ (A : AV) (π : Nat → Nat → Nat) (mi : Nat → Nat → Int32) (ml : Nat → Nat → Int64) (mr : Nat → Nat → Option Nat), ST2 π mi ml mr A → Ev gT CL E q_law 1155 [some (.ref 0), some (.ref 1), some (.ref 285), some (.int (nI i))] [] (WW L, mi, ml, mr)) : Ev gT CL E q_law 936 [some (.ref 0), some (.ref 1), some (.ref 285), some (.int (nI i))] [] (WW L, mi, ml, mr) := by
  refine ev_aload_n (p' := 937) i_law_936 rfl rfl ?_
  refine ev_aload_n (p' := 938) i_law_937 rfl rfl ?_
  refine ev_iload_n (p' := 939) i_law_938 rfl rfl ?_
  refine ev_iconst (p' := 940) (v := nI 1) i_law_939 rfl (by decide) ?_
  refine ev_iaddN (p' := 941) i_law_940 rfl ?_
  refine ev_saldN (p' := 942) i_law_941 rfl (lawlt (by omega)) (by show L < 2 ^ 31; omega) ?_
  obtain ⟨x, A1, π1, mi1, ml1, mr1, mi2, ml2, e1, e2, h0, hS1⟩ := bothI hS (Q_seats L A hS.1 (mi 0 (i + 1)))
  refine ev_v1I (p' := 945) i_law_942 rfl cl_13_122_11 (by decide) is_1 (Nat.le_of_ble_eq_true rfl) (e1) ?_
  refine ev_aload_n (p' := 946) i_law_945 rfl rfl ?_
  refine ev_aload_n (p' := 947) i_law_946 rfl rfl ?_
  refine ev_iload_n (p' := 948) i_law_947 rfl rfl ?_
  refine ev_iconst (p' := 949) (v := nI 1) i_law_948 rfl (by decide) ?_
  refine ev_iaddN (p' := 950) i_law_949 rfl ?_
  refine ev_saldN (p' := 951) i_law_950 rfl (lawlt (by omega)) (by show L < 2 ^ 31; omega) ?_
  rw [h0]
  refine ev_v1I (p' := 954) i_law_951 rfl cl_13_125_12 (by decide) is_285 (Nat.le_of_ble_eq_true rfl) (e2) ?_
  refine ev_icmp_eq (p' := 957) (tg := 1155) i_law_954 rfl rfl (fun c954 => ?_) (fun c954 => absurd (rfl) c954)
  exact kk A1 π1 mi2 ml2 mr1 hS1
theorem law_27 {L i : Nat} {E : Option Value → pm_M → Prop} {A : AV} {π : Nat → Nat → Nat} {mi : Nat → Nat → Int32} {ml : Nat → Nat → Int64} {mr : Nat → Nat → Option Nat} (hL : L ≤ 384) (hi : i + 6 ≤ L) (hS : ST2 π mi ml mr A) (kk : ∀ (A : AV) (π : Nat → Nat → Nat) (mi : Nat → Nat → Int32) (ml : Nat → Nat → Int64) (mr : Nat → Nat → Option Nat), ST2 π mi ml mr A → Ev gT CL E q_law 1155 [some (.ref 0), some (.ref 1), some (.ref 285), some (.int (nI i))] [] (WW L, mi, ml, mr)) : Ev gT CL E q_law 959 [some (.ref 0), some (.ref 1), some (.ref 285), some (.int (nI i))] [] (WW L, mi, ml, mr) := by
  refine ev_aload_n (p' := 960) i_law_959 rfl rfl ?_
  refine ev_aload_n (p' := 961) i_law_960 rfl rfl ?_
  refine ev_iload_n (p' := 962) i_law_961 rfl rfl ?_
  refine ev_iconst (p' := 963) (v := nI 1) i_law_962 rfl (by decide) ?_
  refine ev_iaddN (p' := 964) i_law_963 rfl ?_
  refine ev_saldN (p' := 965) i_law_964 rfl (lawlt (by omega)) (by show L < 2 ^ 31; omega) ?_
  refine ev_aload_n (p' := 966) i_law_965 rfl rfl ?_
  refine ev_iload_n (p' := 967) i_law_966 rfl rfl ?_
  refine ev_iconst (p' := 968) (v := nI 2) i_law_967 rfl (by decide) ?_
  refine ev_iaddN (p' := 969) i_law_968 rfl ?_
  refine ev_saldN (p' := 970) i_law_969 rfl (lawlt (by omega)) (by show L < 2 ^ 31; omega) ?_
  obtain ⟨x, A1, π1, mi1, ml1, mr1, mi2, ml2, e1, e2, h0, hS1⟩ := bothI hS (Q_sticks L A hS.1 (mi 0 (i + 1)) (mi 0 (i + 2)))
  refine ev_v2I (p' := 973) i_law_970 rfl cl_13_126_11 (by decide) is_1 (Nat.le_of_ble_eq_true rfl) (e1) ?_
  refine ev_aload_n (p' := 974) i_law_973 rfl rfl ?_
  refine ev_aload_n (p' := 975) i_law_974 rfl rfl ?_
  refine ev_iload_n (p' := 976) i_law_975 rfl rfl ?_
  refine ev_iconst (p' := 977) (v := nI 1) i_law_976 rfl (by decide) ?_
  refine ev_iaddN (p' := 978) i_law_977 rfl ?_
  refine ev_saldN (p' := 979) i_law_978 rfl (lawlt (by omega)) (by show L < 2 ^ 31; omega) ?_
  refine ev_aload_n (p' := 980) i_law_979 rfl rfl ?_
  refine ev_iload_n (p' := 981) i_law_980 rfl rfl ?_
  refine ev_iconst (p' := 982) (v := nI 2) i_law_981 rfl (by decide) ?_
  refine ev_iaddN (p' := 983) i_law_982 rfl ?_
  refine ev_saldN (p' := 984) i_law_983 rfl (lawlt (by omega)) (by show L < 2 ^ 31; omega) ?_
  rw [h0]
  refine ev_v2I (p' := 987) i_law_984 rfl cl_13_129_12 (by decide) is_285 (Nat.le_of_ble_eq_true rfl) (e2) ?_
  refine ev_icmp_eq (p' := 990) (tg := 1155) i_law_987 rfl rfl (fun c987 => ?_) (fun c987 => absurd (rfl) c987)
  exact kk A1 π1 mi2 ml2 mr1 hS1
theorem law_28 {L i : Nat} {E : Option Value → pm_M → Prop} {A : AV} {π : Nat → Nat → Nat} {mi : Nat → Nat → Int32} {ml : Nat → Nat → Int64} {mr : Nat → Nat → Option Nat} (hL : L ≤ 384) (hi : i + 6 ≤ L) (hS : ST2 π mi ml mr A) (kk : ∀ (A : AV) (π : Nat → Nat → Nat) (mi : Nat → Nat → Int32) (ml : Nat → Nat → Int64) (mr : Nat → Nat → Option Nat), ST2 π mi ml mr A → Ev gT CL E q_law 1155 [some (.ref 0), some (.ref 1), some (.ref 285), some (.int (nI i))] [] (WW L, mi, ml, mr)) : Ev gT CL E q_law 992 [some (.ref 0), some (.ref 1), some (.ref 285), some (.int (nI i))] [] (WW L, mi, ml, mr) := by
  refine ev_aload_n (p' := 993) i_law_992 rfl rfl ?_
  refine ev_aload_n (p' := 994) i_law_993 rfl rfl ?_
  refine ev_iload_n (p' := 995) i_law_994 rfl rfl ?_
  refine ev_iconst (p' := 996) (v := nI 1) i_law_995 rfl (by decide) ?_
  refine ev_iaddN (p' := 997) i_law_996 rfl ?_
  refine ev_saldN (p' := 998) i_law_997 rfl (lawlt (by omega)) (by show L < 2 ^ 31; omega) ?_
  refine ev_aload_n (p' := 999) i_law_998 rfl rfl ?_
  refine ev_iload_n (p' := 1000) i_law_999 rfl rfl ?_
  refine ev_iconst (p' := 1001) (v := nI 2) i_law_1000 rfl (by decide) ?_
  refine ev_iaddN (p' := 1002) i_law_1001 rfl ?_
  refine ev_saldN (p' := 1003) i_law_1002 rfl (lawlt (by omega)) (by show L < 2 ^ 31; omega) ?_
  obtain ⟨x, A1, π1, mi1, ml1, mr1, mi2, ml2, e1, e2, h0, hS1⟩ := bothI hS (Q_readers L A hS.1 (mi 0 (i + 1)) (mi 0 (i + 2)))
  refine ev_v2I (p' := 1006) i_law_1003 rfl cl_13_130_11 (by decide) is_1 (Nat.le_of_ble_eq_true rfl) (e1) ?_
  refine ev_aload_n (p' := 1007) i_law_1006 rfl rfl ?_
  refine ev_aload_n (p' := 1008) i_law_1007 rfl rfl ?_
  refine ev_iload_n (p' := 1009) i_law_1008 rfl rfl ?_
  refine ev_iconst (p' := 1010) (v := nI 1) i_law_1009 rfl (by decide) ?_
  refine ev_iaddN (p' := 1011) i_law_1010 rfl ?_
  refine ev_saldN (p' := 1012) i_law_1011 rfl (lawlt (by omega)) (by show L < 2 ^ 31; omega) ?_
  refine ev_aload_n (p' := 1013) i_law_1012 rfl rfl ?_
  refine ev_iload_n (p' := 1014) i_law_1013 rfl rfl ?_
  refine ev_iconst (p' := 1015) (v := nI 2) i_law_1014 rfl (by decide) ?_
  refine ev_iaddN (p' := 1016) i_law_1015 rfl ?_
  refine ev_saldN (p' := 1017) i_law_1016 rfl (lawlt (by omega)) (by show L < 2 ^ 31; omega) ?_
  rw [h0]
  refine ev_v2I (p' := 1020) i_law_1017 rfl cl_13_133_12 (by decide) is_285 (Nat.le_of_ble_eq_true rfl) (e2) ?_
  refine ev_icmp_eq (p' := 1023) (tg := 1155) i_law_1020 rfl rfl (fun c1020 => ?_) (fun c1020 => absurd (rfl) c1020)
  exact kk A1 π1 mi2 ml2 mr1 hS1
theorem law_29 {L i : Nat} {E : Option Value → pm_M → Prop} {A : AV} {π : Nat → Nat → Nat} {mi : Nat → Nat → Int32} {ml : Nat → Nat → Int64} {mr : Nat → Nat → Option Nat} (hL : L ≤ 384) (hi : i + 6 ≤ L) (hS : ST2 π mi ml mr A) (kk : ∀ (A : AV) (π : Nat → Nat → Nat) (mi : Nat → Nat → Int32) (ml : Nat → Nat → Int64) (mr : Nat → Nat → Option Nat), ST2 π mi ml mr A → Ev gT CL E q_law 1155 [some (.ref 0), some (.ref 1), some (.ref 285), some (.int (nI i))] [] (WW L, mi, ml, mr)) : Ev gT CL E q_law 1025 [some (.ref 0), some (.ref 1), some (.ref 285), some (.int (nI i))] [] (WW L, mi, ml, mr) := by
  refine ev_aload_n (p' := 1026) i_law_1025 rfl rfl ?_
  refine ev_aload_n (p' := 1027) i_law_1026 rfl rfl ?_
  refine ev_iload_n (p' := 1028) i_law_1027 rfl rfl ?_
  refine ev_iconst (p' := 1029) (v := nI 1) i_law_1028 rfl (by decide) ?_
  refine ev_iaddN (p' := 1030) i_law_1029 rfl ?_
  refine ev_saldN (p' := 1031) i_law_1030 rfl (lawlt (by omega)) (by show L < 2 ^ 31; omega) ?_
  obtain ⟨x, A1, π1, mi1, ml1, mr1, mi2, ml2, e1, e2, h0, hS1⟩ := bothJ hS (Q_part L A hS.1 (mi 0 (i + 1)))
  refine ev_v1L (p' := 1034) i_law_1031 rfl cl_13_134_11 (by decide) is_1 (Nat.le_of_ble_eq_true rfl) (e1) ?_
  refine ev_aload_n (p' := 1035) i_law_1034 rfl rfl ?_
  refine ev_aload_n (p' := 1036) i_law_1035 rfl rfl ?_
  refine ev_iload_n (p' := 1037) i_law_1036 rfl rfl ?_
  refine ev_iconst (p' := 1038) (v := nI 1) i_law_1037 rfl (by decide) ?_
  refine ev_iaddN (p' := 1039) i_law_1038 rfl ?_
  refine ev_saldN (p' := 1040) i_law_1039 rfl (lawlt (by omega)) (by show L < 2 ^ 31; omega) ?_
  rw [h0]
  refine ev_v1L (p' := 1043) i_law_1040 rfl cl_13_138_12 (by decide) is_285 (Nat.le_of_ble_eq_true rfl) (e2) ?_
  refine ev_lcmp (p' := 1044) i_law_1043 rfl ?_
  refine ev_if_eq (p' := 1047) (tg := 1155) i_law_1044 rfl rfl (fun c1044 => ?_) (fun c1044 => absurd (lcmp_self x) c1044)
  exact kk A1 π1 mi2 ml2 mr1 hS1
theorem law_30 {L i : Nat} {E : Option Value → pm_M → Prop} {A : AV} {π : Nat → Nat → Nat} {mi : Nat → Nat → Int32} {ml : Nat → Nat → Int64} {mr : Nat → Nat → Option Nat} (hL : L ≤ 384) (hi : i + 6 ≤ L) (hS : ST2 π mi ml mr A) (kk : ∀ (A : AV) (π : Nat → Nat → Nat) (mi : Nat → Nat → Int32) (ml : Nat → Nat → Int64) (mr : Nat → Nat → Option Nat), ST2 π mi ml mr A → Ev gT CL E q_law 1155 [some (.ref 0), some (.ref 1), some (.ref 285), some (.int (nI i))] [] (WW L, mi, ml, mr)) : Ev gT CL E q_law 1049 [some (.ref 0), some (.ref 1), some (.ref 285), some (.int (nI i))] [] (WW L, mi, ml, mr) := by
  refine ev_aload_n (p' := 1050) i_law_1049 rfl rfl ?_
  refine ev_aload_n (p' := 1051) i_law_1050 rfl rfl ?_
  refine ev_iload_n (p' := 1052) i_law_1051 rfl rfl ?_
  refine ev_iconst (p' := 1053) (v := nI 1) i_law_1052 rfl (by decide) ?_
  refine ev_iaddN (p' := 1054) i_law_1053 rfl ?_
  refine ev_saldN (p' := 1055) i_law_1054 rfl (lawlt (by omega)) (by show L < 2 ^ 31; omega) ?_
  obtain ⟨x, A1, π1, mi1, ml1, mr1, mi2, ml2, e1, e2, h0, hS1⟩ := bothI hS (Q_image L A hS.1 (mi 0 (i + 1)))
  refine ev_v1I (p' := 1058) i_law_1055 rfl cl_13_139_11 (by decide) is_1 (Nat.le_of_ble_eq_true rfl) (e1) ?_
  refine ev_aload_n (p' := 1059) i_law_1058 rfl rfl ?_
  refine ev_aload_n (p' := 1060) i_law_1059 rfl rfl ?_
  refine ev_iload_n (p' := 1061) i_law_1060 rfl rfl ?_
  refine ev_iconst (p' := 1062) (v := nI 1) i_law_1061 rfl (by decide) ?_
  refine ev_iaddN (p' := 1063) i_law_1062 rfl ?_
  refine ev_saldN (p' := 1064) i_law_1063 rfl (lawlt (by omega)) (by show L < 2 ^ 31; omega) ?_
  rw [h0]
  refine ev_v1I (p' := 1067) i_law_1064 rfl cl_13_142_12 (by decide) is_285 (Nat.le_of_ble_eq_true rfl) (e2) ?_
  refine ev_icmp_eq (p' := 1070) (tg := 1155) i_law_1067 rfl rfl (fun c1067 => ?_) (fun c1067 => absurd (rfl) c1067)
  exact kk A1 π1 mi2 ml2 mr1 hS1
theorem law_31 {L i : Nat} {E : Option Value → pm_M → Prop} {A : AV} {π : Nat → Nat → Nat} {mi : Nat → Nat → Int32} {ml : Nat → Nat → Int64} {mr : Nat → Nat → Option Nat} (hL : L ≤ 384) (hi : i + 6 ≤ L) (hS : ST2 π mi ml mr A) (kk : ∀ (A : AV) (π : Nat → Nat → Nat) (mi : Nat → Nat → Int32) (ml : Nat → Nat → Int64) (mr : Nat → Nat → Option Nat), ST2 π mi ml mr A → Ev gT CL E q_law 1155 [some (.ref 0), some (.ref 1), some (.ref 285), some (.int (nI i))] [] (WW L, mi, ml, mr)) : Ev gT CL E q_law 1072 [some (.ref 0), some (.ref 1), some (.ref 285), some (.int (nI i))] [] (WW L, mi, ml, mr) := by
  refine ev_aload_n (p' := 1073) i_law_1072 rfl rfl ?_
  refine ev_aload_n (p' := 1074) i_law_1073 rfl rfl ?_
  refine ev_iload_n (p' := 1075) i_law_1074 rfl rfl ?_
  refine ev_iconst (p' := 1076) (v := nI 1) i_law_1075 rfl (by decide) ?_
  refine ev_iaddN (p' := 1077) i_law_1076 rfl ?_
  refine ev_saldN (p' := 1078) i_law_1077 rfl (lawlt (by omega)) (by show L < 2 ^ 31; omega) ?_
  obtain ⟨x, A1, π1, mi1, ml1, mr1, mi2, ml2, e1, e2, h0, hS1⟩ := bothI hS (Q_from L A hS.1 (mi 0 (i + 1)))
  refine ev_v1I (p' := 1081) i_law_1078 rfl cl_13_143_11 (by decide) is_1 (Nat.le_of_ble_eq_true rfl) (e1) ?_
  refine ev_aload_n (p' := 1082) i_law_1081 rfl rfl ?_
  refine ev_aload_n (p' := 1083) i_law_1082 rfl rfl ?_
  refine ev_iload_n (p' := 1084) i_law_1083 rfl rfl ?_
  refine ev_iconst (p' := 1085) (v := nI 1) i_law_1084 rfl (by decide) ?_
  refine ev_iaddN (p' := 1086) i_law_1085 rfl ?_
  refine ev_saldN (p' := 1087) i_law_1086 rfl (lawlt (by omega)) (by show L < 2 ^ 31; omega) ?_
  rw [h0]
  refine ev_v1I (p' := 1090) i_law_1087 rfl cl_13_146_12 (by decide) is_285 (Nat.le_of_ble_eq_true rfl) (e2) ?_
  refine ev_icmp_eq (p' := 1093) (tg := 1155) i_law_1090 rfl rfl (fun c1090 => ?_) (fun c1090 => absurd (rfl) c1090)
  exact kk A1 π1 mi2 ml2 mr1 hS1
theorem law_32 {L i : Nat} {E : Option Value → pm_M → Prop} {A : AV} {π : Nat → Nat → Nat} {mi : Nat → Nat → Int32} {ml : Nat → Nat → Int64} {mr : Nat → Nat → Option Nat} (hL : L ≤ 384) (hi : i + 6 ≤ L) (hS : ST2 π mi ml mr A) (kk : ∀ (A : AV) (π : Nat → Nat → Nat) (mi : Nat → Nat → Int32) (ml : Nat → Nat → Int64) (mr : Nat → Nat → Option Nat), ST2 π mi ml mr A → Ev gT CL E q_law 1155 [some (.ref 0), some (.ref 1), some (.ref 285), some (.int (nI i))] [] (WW L, mi, ml, mr)) : Ev gT CL E q_law 1095 [some (.ref 0), some (.ref 1), some (.ref 285), some (.int (nI i))] [] (WW L, mi, ml, mr) := by
  refine ev_aload_n (p' := 1096) i_law_1095 rfl rfl ?_
  refine ev_aload_n (p' := 1097) i_law_1096 rfl rfl ?_
  refine ev_iload_n (p' := 1098) i_law_1097 rfl rfl ?_
  refine ev_iconst (p' := 1099) (v := nI 1) i_law_1098 rfl (by decide) ?_
  refine ev_iaddN (p' := 1100) i_law_1099 rfl ?_
  refine ev_saldN (p' := 1101) i_law_1100 rfl (lawlt (by omega)) (by show L < 2 ^ 31; omega) ?_
  obtain ⟨x, A1, π1, mi1, ml1, mr1, mi2, ml2, e1, e2, h0, hS1⟩ := bothI hS (Q_status L A hS.1 (mi 0 (i + 1)))
  refine ev_v1I (p' := 1104) i_law_1101 rfl cl_13_147_11 (by decide) is_1 (Nat.le_of_ble_eq_true rfl) (e1) ?_
  refine ev_aload_n (p' := 1105) i_law_1104 rfl rfl ?_
  refine ev_aload_n (p' := 1106) i_law_1105 rfl rfl ?_
  refine ev_iload_n (p' := 1107) i_law_1106 rfl rfl ?_
  refine ev_iconst (p' := 1108) (v := nI 1) i_law_1107 rfl (by decide) ?_
  refine ev_iaddN (p' := 1109) i_law_1108 rfl ?_
  refine ev_saldN (p' := 1110) i_law_1109 rfl (lawlt (by omega)) (by show L < 2 ^ 31; omega) ?_
  rw [h0]
  refine ev_v1I (p' := 1113) i_law_1110 rfl cl_13_150_12 (by decide) is_285 (Nat.le_of_ble_eq_true rfl) (e2) ?_
  refine ev_icmp_eq (p' := 1116) (tg := 1155) i_law_1113 rfl rfl (fun c1113 => ?_) (fun c1113 => absurd (rfl) c1113)
  exact kk A1 π1 mi2 ml2 mr1 hS1
theorem law_33 {L i : Nat} {E : Option Value → pm_M → Prop} {A : AV} {π : Nat → Nat → Nat} {mi : Nat → Nat → Int32} {ml : Nat → Nat → Int64} {mr : Nat → Nat → Option Nat} (hL : L ≤ 384) (hi : i + 6 ≤ L) (hS : ST2 π mi ml mr A) (kk : ∀ (A : AV) (π : Nat → Nat → Nat) (mi : Nat → Nat → Int32) (ml : Nat → Nat → Int64) (mr : Nat → Nat → Option Nat), ST2 π mi ml mr A → Ev gT CL E q_law 1155 [some (.ref 0), some (.ref 1), some (.ref 285), some (.int (nI i))] [] (WW L, mi, ml, mr)) : Ev gT CL E q_law 1118 [some (.ref 0), some (.ref 1), some (.ref 285), some (.int (nI i))] [] (WW L, mi, ml, mr) := by
  refine ev_aload_n (p' := 1119) i_law_1118 rfl rfl ?_
  refine ev_aload_n (p' := 1120) i_law_1119 rfl rfl ?_
  refine ev_iload_n (p' := 1121) i_law_1120 rfl rfl ?_
  refine ev_iconst (p' := 1122) (v := nI 1) i_law_1121 rfl (by decide) ?_
  refine ev_iaddN (p' := 1123) i_law_1122 rfl ?_
  refine ev_saldN (p' := 1124) i_law_1123 rfl (lawlt (by omega)) (by show L < 2 ^ 31; omega) ?_
  obtain ⟨x, A1, π1, mi1, ml1, mr1, mi2, ml2, e1, e2, h0, hS1⟩ := bothI hS (Q_count L A hS.1 (mi 0 (i + 1)))
  refine ev_v1I (p' := 1127) i_law_1124 rfl cl_13_151_11 (by decide) is_1 (Nat.le_of_ble_eq_true rfl) (e1) ?_
  refine ev_aload_n (p' := 1128) i_law_1127 rfl rfl ?_
  refine ev_aload_n (p' := 1129) i_law_1128 rfl rfl ?_
  refine ev_iload_n (p' := 1130) i_law_1129 rfl rfl ?_
  refine ev_iconst (p' := 1131) (v := nI 1) i_law_1130 rfl (by decide) ?_
  refine ev_iaddN (p' := 1132) i_law_1131 rfl ?_
  refine ev_saldN (p' := 1133) i_law_1132 rfl (lawlt (by omega)) (by show L < 2 ^ 31; omega) ?_
  rw [h0]
  refine ev_v1I (p' := 1136) i_law_1133 rfl cl_13_154_12 (by decide) is_285 (Nat.le_of_ble_eq_true rfl) (e2) ?_
  refine ev_icmp_eq (p' := 1139) (tg := 1155) i_law_1136 rfl rfl (fun c1136 => ?_) (fun c1136 => absurd (rfl) c1136)
  exact kk A1 π1 mi2 ml2 mr1 hS1
theorem law_34 {L i : Nat} {E : Option Value → pm_M → Prop} {A : AV} {π : Nat → Nat → Nat} {mi : Nat → Nat → Int32} {ml : Nat → Nat → Int64} {mr : Nat → Nat → Option Nat} (hL : L ≤ 384) (hi : i + 6 ≤ L) (hS : ST2 π mi ml mr A) (kk : ∀ (A : AV) (π : Nat → Nat → Nat) (mi : Nat → Nat → Int32) (ml : Nat → Nat → Int64) (mr : Nat → Nat → Option Nat), ST2 π mi ml mr A → Ev gT CL E q_law 1155 [some (.ref 0), some (.ref 1), some (.ref 285), some (.int (nI i))] [] (WW L, mi, ml, mr)) : Ev gT CL E q_law 1141 [some (.ref 0), some (.ref 1), some (.ref 285), some (.int (nI i))] [] (WW L, mi, ml, mr) := by
  refine ev_aload_n (p' := 1142) i_law_1141 rfl rfl ?_
  obtain ⟨x, A1, π1, mi1, ml1, mr1, mi2, ml2, e1, e2, h0, hS1⟩ := bothJ hS (Q_digest L A hS.1)
  refine ev_v0L (p' := 1145) i_law_1142 rfl cl_13_155_11 (by decide) is_1 (Nat.le_of_ble_eq_true rfl) (e1) ?_
  refine ev_aload_n (p' := 1146) i_law_1145 rfl rfl ?_
  skip
  refine ev_v0L (p' := 1149) i_law_1146 rfl cl_13_159_12 (by decide) is_285 (Nat.le_of_ble_eq_true rfl) (e2) ?_
  refine ev_lcmp (p' := 1150) i_law_1149 rfl ?_
  refine ev_if_eq (p' := 1153) (tg := 1155) i_law_1150 rfl rfl (fun c1150 => ?_) (fun c1150 => absurd (lcmp_self x) c1150)
  exact kk A1 π1 mi2 ml2 mr1 hS1
set_option maxHeartbeats 4000000 in
theorem law_loop {L : Nat} {E : Option Value → pm_M → Prop} (hL : L ≤ 384) (hE : ∀ mi ml mr, E (some (.int 1)) (WW L, mi, ml, mr)) : ∀ (k i : Nat) (A : AV) (π : Nat → Nat → Nat) (mi : Nat → Nat → Int32) (ml : Nat → Nat → Int64) (mr : Nat → Nat → Option Nat), L ≤ i + 6 * k → i ≤ L + 6 → ST2 π mi ml mr A → Ev gT CL E q_law 18 [some (.ref 0), some (.ref 1), some (.ref 285), some (.int (nI i))] [] (WW L, mi, ml, mr) := by
  intro k
  induction k with
  | zero =>
    intro i A π mi ml mr hk hi hS
    refine ev_iload_n (p' := 19) i_law_18 rfl rfl ?_
    refine ev_aload_n (p' := 20) i_law_19 rfl rfl ?_
    refine ev_slen (p' := 21) i_law_20 rfl ?_
    refine ev_bipush (p' := 23) (v := nI 6) i_law_21 rfl (by decide) ?_
    refine ev_isub (p' := 24) i_law_23 rfl ?_
    refine ev_icmp_gt (p' := 27) (tg := 1161) i_law_24 rfl rfl (fun c24 => ?_) (fun c24 => absurd ((lw6 (i := i) (L := L) (by omega) (by omega)).mpr (by omega)) c24)
    refine ev_iconst (p' := 1162) (v := 1) i_law_1161 rfl (by decide) ?_
    exact ev_iret i_law_1162 rfl rfl (hE _ _ _)
  | succ k ih =>
    intro i A π mi ml mr hk hi hS
    by_cases h6 : i + 6 ≤ L
    · have hkk : ∀ (A' : AV) (π' : Nat → Nat → Nat) (mi' : Nat → Nat → Int32) (ml' : Nat → Nat → Int64) (mr' : Nat → Nat → Option Nat), ST2 π' mi' ml' mr' A' → Ev gT CL E q_law 1155 [some (.ref 0), some (.ref 1), some (.ref 285), some (.int (nI i))] [] (WW L, mi', ml', mr') := by
        intro A' π' mi' ml' mr' hS'
        refine ev_iinc (p' := 1158) (ls' := [_, _, _, _]) i_law_1155 rfl rfl rfl (by decide) rfl rfl ?_
        refine ev_goto (tg := 18) i_law_1158 rfl ?_
        rw [show nI i + Int32.ofInt 6 = nI (i + 6) from nI_add i 6]
        exact ih (i + 6) A' π' mi' ml' mr' (by omega) (by omega) hS'
      refine ev_iload_n (p' := 19) i_law_18 rfl rfl ?_
      refine ev_aload_n (p' := 20) i_law_19 rfl rfl ?_
      refine ev_slen (p' := 21) i_law_20 rfl ?_
      refine ev_bipush (p' := 23) (v := nI 6) i_law_21 rfl (by decide) ?_
      refine ev_isub (p' := 24) i_law_23 rfl ?_
      refine ev_icmp_gt (p' := 27) (tg := 1161) i_law_24 rfl rfl (fun c24 => absurd c24 (fun z => absurd ((lw6 (i := i) (L := L) (by omega) (by omega)).mp z) (by omega))) (fun c24 => ?_)
      refine ev_aload_n (p' := 28) i_law_27 rfl rfl ?_
      refine ev_iload_n (p' := 29) i_law_28 rfl rfl ?_
      refine ev_saldN (p' := 30) i_law_29 rfl (lawlt (by omega)) (by show L < 2 ^ 31; omega) ?_
      refine ev_bipush (p' := 32) (v := 63) i_law_30 rfl (by decide) ?_
      refine ev_iand (p' := 33) i_law_32 rfl ?_
      obtain ⟨j, hj, ej⟩ := pk_andE (mi 0 i) (m := 63) 6 (by decide)
      rw [ej]
      match j, hj with
      | 0, _ =>
        refine ev_tsIn (tg := 188) (off := 155) i_law_33 (by decide) (by decide) (by decide) (by decide) ?_
        exact law_0 hL h6 hS hkk
      | 1, _ =>
        refine ev_tsIn (tg := 211) (off := 178) i_law_33 (by decide) (by decide) (by decide) (by decide) ?_
        exact law_1 hL h6 hS hkk
      | 2, _ =>
        refine ev_tsIn (tg := 274) (off := 241) i_law_33 (by decide) (by decide) (by decide) (by decide) ?_
        exact law_2 hL h6 hS hkk
      | 3, _ =>
        refine ev_tsIn (tg := 297) (off := 264) i_law_33 (by decide) (by decide) (by decide) (by decide) ?_
        exact law_3 hL h6 hS hkk
      | 4, _ =>
        refine ev_tsIn (tg := 310) (off := 277) i_law_33 (by decide) (by decide) (by decide) (by decide) ?_
        exact law_4 hL h6 hS hkk
      | 5, _ =>
        refine ev_tsIn (tg := 323) (off := 290) i_law_33 (by decide) (by decide) (by decide) (by decide) ?_
        exact law_5 hL h6 hS hkk
      | 6, _ =>
        refine ev_tsIn (tg := 346) (off := 313) i_law_33 (by decide) (by decide) (by decide) (by decide) ?_
        exact law_6 hL h6 hS hkk
      | 7, _ =>
        refine ev_tsIn (tg := 379) (off := 346) i_law_33 (by decide) (by decide) (by decide) (by decide) ?_
        exact law_7 hL h6 hS hkk
      | 8, _ =>
        refine ev_tsIn (tg := 402) (off := 369) i_law_33 (by decide) (by decide) (by decide) (by decide) ?_
        exact law_8 hL h6 hS hkk
      | 9, _ =>
        refine ev_tsIn (tg := 415) (off := 382) i_law_33 (by decide) (by decide) (by decide) (by decide) ?_
        exact law_9 hL h6 hS hkk
      | 10, _ =>
        refine ev_tsIn (tg := 448) (off := 415) i_law_33 (by decide) (by decide) (by decide) (by decide) ?_
        exact law_10 hL h6 hS hkk
      | 11, _ =>
        refine ev_tsIn (tg := 491) (off := 458) i_law_33 (by decide) (by decide) (by decide) (by decide) ?_
        exact law_11 hL h6 hS hkk
      | 12, _ =>
        refine ev_tsIn (tg := 524) (off := 491) i_law_33 (by decide) (by decide) (by decide) (by decide) ?_
        exact law_12 hL h6 hS hkk
      | 13, _ =>
        refine ev_tsIn (tg := 547) (off := 514) i_law_33 (by decide) (by decide) (by decide) (by decide) ?_
        exact law_13 hL h6 hS hkk
      | 14, _ =>
        refine ev_tsIn (tg := 570) (off := 537) i_law_33 (by decide) (by decide) (by decide) (by decide) ?_
        exact law_14 hL h6 hS hkk
      | 15, _ =>
        refine ev_tsIn (tg := 593) (off := 560) i_law_33 (by decide) (by decide) (by decide) (by decide) ?_
        exact law_15 hL h6 hS hkk
      | 16, _ =>
        refine ev_tsIn (tg := 616) (off := 583) i_law_33 (by decide) (by decide) (by decide) (by decide) ?_
        exact law_16 hL h6 hS hkk
      | 17, _ =>
        refine ev_tsIn (tg := 649) (off := 616) i_law_33 (by decide) (by decide) (by decide) (by decide) ?_
        exact law_17 hL h6 hS hkk
      | 18, _ =>
        refine ev_tsIn (tg := 692) (off := 659) i_law_33 (by decide) (by decide) (by decide) (by decide) ?_
        exact law_18 hL h6 hS hkk
      | 19, _ =>
        refine ev_tsIn (tg := 705) (off := 672) i_law_33 (by decide) (by decide) (by decide) (by decide) ?_
        exact law_19 hL h6 hS hkk
      | 20, _ =>
        refine ev_tsIn (tg := 738) (off := 705) i_law_33 (by decide) (by decide) (by decide) (by decide) ?_
        exact law_20 hL h6 hS hkk
      | 21, _ =>
        refine ev_tsIn (tg := 801) (off := 768) i_law_33 (by decide) (by decide) (by decide) (by decide) ?_
        exact law_21 hL h6 hS hkk
      | 22, _ =>
        refine ev_tsIn (tg := 834) (off := 801) i_law_33 (by decide) (by decide) (by decide) (by decide) ?_
        exact law_22 hL h6 hS hkk
      | 23, _ =>
        refine ev_tsIn (tg := 857) (off := 824) i_law_33 (by decide) (by decide) (by decide) (by decide) ?_
        exact law_23 hL h6 hS hkk
      | 24, _ =>
        refine ev_tsIn (tg := 880) (off := 847) i_law_33 (by decide) (by decide) (by decide) (by decide) ?_
        exact law_24 hL h6 hS hkk
      | 25, _ =>
        refine ev_tsIn (tg := 903) (off := 870) i_law_33 (by decide) (by decide) (by decide) (by decide) ?_
        exact law_25 hL h6 hS hkk
      | 26, _ =>
        refine ev_tsIn (tg := 936) (off := 903) i_law_33 (by decide) (by decide) (by decide) (by decide) ?_
        exact law_26 hL h6 hS hkk
      | 27, _ =>
        refine ev_tsIn (tg := 959) (off := 926) i_law_33 (by decide) (by decide) (by decide) (by decide) ?_
        exact law_27 hL h6 hS hkk
      | 28, _ =>
        refine ev_tsIn (tg := 992) (off := 959) i_law_33 (by decide) (by decide) (by decide) (by decide) ?_
        exact law_28 hL h6 hS hkk
      | 29, _ =>
        refine ev_tsIn (tg := 1025) (off := 992) i_law_33 (by decide) (by decide) (by decide) (by decide) ?_
        exact law_29 hL h6 hS hkk
      | 30, _ =>
        refine ev_tsIn (tg := 1049) (off := 1016) i_law_33 (by decide) (by decide) (by decide) (by decide) ?_
        exact law_30 hL h6 hS hkk
      | 31, _ =>
        refine ev_tsIn (tg := 1072) (off := 1039) i_law_33 (by decide) (by decide) (by decide) (by decide) ?_
        exact law_31 hL h6 hS hkk
      | 32, _ =>
        refine ev_tsIn (tg := 1095) (off := 1062) i_law_33 (by decide) (by decide) (by decide) (by decide) ?_
        exact law_32 hL h6 hS hkk
      | 33, _ =>
        refine ev_tsIn (tg := 1118) (off := 1085) i_law_33 (by decide) (by decide) (by decide) (by decide) ?_
        exact law_33 hL h6 hS hkk
      | 34, _ =>
        refine ev_tsIn (tg := 1141) (off := 1108) i_law_33 (by decide) (by decide) (by decide) (by decide) ?_
        exact law_34 hL h6 hS hkk
      | j + 35, hj =>
        refine ev_tsOut (tg := 1155) i_law_33 (Or.inr (by rw [nI_toInt (by omega)]; omega)) (by decide) ?_
        exact hkk A π mi ml mr hS
    · skip
      refine ev_iload_n (p' := 19) i_law_18 rfl rfl ?_
      refine ev_aload_n (p' := 20) i_law_19 rfl rfl ?_
      refine ev_slen (p' := 21) i_law_20 rfl ?_
      refine ev_bipush (p' := 23) (v := nI 6) i_law_21 rfl (by decide) ?_
      refine ev_isub (p' := 24) i_law_23 rfl ?_
      refine ev_icmp_gt (p' := 27) (tg := 1161) i_law_24 rfl rfl (fun c24 => ?_) (fun c24 => absurd ((lw6 (i := i) (L := L) (by omega) (by omega)).mpr (by omega)) c24)
      refine ev_iconst (p' := 1162) (v := 1) i_law_1161 rfl (by decide) ?_
      exact ev_iret i_law_1162 rfl rfl (hE _ _ _)
