theorem dX8_init_172 : decode cX8_init 172 = .ok (.ldc 67, 2) := by decide +kernel
theorem dX8_init_174 : decode cX8_init 174 = .ok (.iastore, 1) := by decide +kernel
theorem dX8_init_175 : decode cX8_init 175 = .ok (.dup, 1) := by decide +kernel
theorem dX8_init_176 : decode cX8_init 176 = .ok (.bipush 7, 2) := by decide +kernel
theorem dX8_init_178 : decode cX8_init 178 = .ok (.ldc 68, 2) := by decide +kernel
theorem dX8_init_180 : decode cX8_init 180 = .ok (.iastore, 1) := by decide +kernel
theorem dX8_init_181 : decode cX8_init 181 = .ok (.dup, 1) := by decide +kernel
theorem dX8_init_182 : decode cX8_init 182 = .ok (.bipush 8, 2) := by decide +kernel
theorem dX8_init_184 : decode cX8_init 184 = .ok (.ldc 69, 2) := by decide +kernel
theorem dX8_init_186 : decode cX8_init 186 = .ok (.iastore, 1) := by decide +kernel
theorem dX8_init_187 : decode cX8_init 187 = .ok (.dup, 1) := by decide +kernel
theorem dX8_init_188 : decode cX8_init 188 = .ok (.bipush 9, 2) := by decide +kernel
theorem dX8_init_190 : decode cX8_init 190 = .ok (.ldc 70, 2) := by decide +kernel
theorem dX8_init_192 : decode cX8_init 192 = .ok (.iastore, 1) := by decide +kernel
theorem dX8_init_193 : decode cX8_init 193 = .ok (.dup, 1) := by decide +kernel
theorem dX8_init_194 : decode cX8_init 194 = .ok (.bipush 10, 2) := by decide +kernel
theorem dX8_init_196 : decode cX8_init 196 = .ok (.ldc 71, 2) := by decide +kernel
theorem dX8_init_198 : decode cX8_init 198 = .ok (.iastore, 1) := by decide +kernel
theorem dX8_init_199 : decode cX8_init 199 = .ok (.dup, 1) := by decide +kernel
theorem dX8_init_200 : decode cX8_init 200 = .ok (.bipush 11, 2) := by decide +kernel
theorem dX8_init_202 : decode cX8_init 202 = .ok (.ldc 72, 2) := by decide +kernel
theorem dX8_init_204 : decode cX8_init 204 = .ok (.iastore, 1) := by decide +kernel
theorem dX8_init_205 : decode cX8_init 205 = .ok (.dup, 1) := by decide +kernel
theorem dX8_init_206 : decode cX8_init 206 = .ok (.bipush 12, 2) := by decide +kernel
theorem dX8_init_208 : decode cX8_init 208 = .ok (.ldc 73, 2) := by decide +kernel
theorem dX8_init_210 : decode cX8_init 210 = .ok (.iastore, 1) := by decide +kernel
theorem dX8_init_211 : decode cX8_init 211 = .ok (.dup, 1) := by decide +kernel
theorem dX8_init_212 : decode cX8_init 212 = .ok (.bipush 13, 2) := by decide +kernel
theorem dX8_init_214 : decode cX8_init 214 = .ok (.ldc 74, 2) := by decide +kernel
theorem dX8_init_216 : decode cX8_init 216 = .ok (.iastore, 1) := by decide +kernel
theorem dX8_init_217 : decode cX8_init 217 = .ok (.dup, 1) := by decide +kernel
theorem dX8_init_218 : decode cX8_init 218 = .ok (.bipush 14, 2) := by decide +kernel
theorem dX8_init_220 : decode cX8_init 220 = .ok (.ldc 75, 2) := by decide +kernel
theorem dX8_init_222 : decode cX8_init 222 = .ok (.iastore, 1) := by decide +kernel
theorem dX8_init_223 : decode cX8_init 223 = .ok (.dup, 1) := by decide +kernel
theorem dX8_init_224 : decode cX8_init 224 = .ok (.bipush 15, 2) := by decide +kernel
theorem dX8_init_226 : decode cX8_init 226 = .ok (.ldc 76, 2) := by decide +kernel
theorem dX8_init_228 : decode cX8_init 228 = .ok (.iastore, 1) := by decide +kernel
theorem dX8_init_229 : decode cX8_init 229 = .ok (.dup, 1) := by decide +kernel
theorem dX8_init_230 : decode cX8_init 230 = .ok (.bipush 16, 2) := by decide +kernel
theorem dX8_init_232 : decode cX8_init 232 = .ok (.ldc 77, 2) := by decide +kernel
theorem dX8_init_234 : decode cX8_init 234 = .ok (.iastore, 1) := by decide +kernel
theorem dX8_init_235 : decode cX8_init 235 = .ok (.dup, 1) := by decide +kernel
theorem dX8_init_236 : decode cX8_init 236 = .ok (.bipush 17, 2) := by decide +kernel
theorem dX8_init_238 : decode cX8_init 238 = .ok (.ldc 78, 2) := by decide +kernel
theorem dX8_init_240 : decode cX8_init 240 = .ok (.iastore, 1) := by decide +kernel
theorem dX8_init_241 : decode cX8_init 241 = .ok (.dup, 1) := by decide +kernel
theorem dX8_init_242 : decode cX8_init 242 = .ok (.bipush 18, 2) := by decide +kernel
theorem dX8_init_244 : decode cX8_init 244 = .ok (.ldc 79, 2) := by decide +kernel
theorem dX8_init_246 : decode cX8_init 246 = .ok (.iastore, 1) := by decide +kernel
theorem dX8_init_247 : decode cX8_init 247 = .ok (.dup, 1) := by decide +kernel
theorem dX8_init_248 : decode cX8_init 248 = .ok (.bipush 19, 2) := by decide +kernel
theorem dX8_init_250 : decode cX8_init 250 = .ok (.ldc 80, 2) := by decide +kernel
theorem dX8_init_252 : decode cX8_init 252 = .ok (.iastore, 1) := by decide +kernel
theorem dX8_init_253 : decode cX8_init 253 = .ok (.dup, 1) := by decide +kernel
theorem dX8_init_254 : decode cX8_init 254 = .ok (.bipush 20, 2) := by decide +kernel
theorem dX8_init_256 : decode cX8_init 256 = .ok (.ldc 81, 2) := by decide +kernel
theorem dX8_init_258 : decode cX8_init 258 = .ok (.iastore, 1) := by decide +kernel
theorem dX8_init_259 : decode cX8_init 259 = .ok (.dup, 1) := by decide +kernel
theorem dX8_init_260 : decode cX8_init 260 = .ok (.bipush 21, 2) := by decide +kernel
theorem dX8_init_262 : decode cX8_init 262 = .ok (.ldc 82, 2) := by decide +kernel
theorem dX8_init_264 : decode cX8_init 264 = .ok (.iastore, 1) := by decide +kernel
theorem dX8_init_265 : decode cX8_init 265 = .ok (.dup, 1) := by decide +kernel
theorem dX8_init_266 : decode cX8_init 266 = .ok (.bipush 22, 2) := by decide +kernel
theorem dX8_init_268 : decode cX8_init 268 = .ok (.ldc 83, 2) := by decide +kernel
theorem dX8_init_270 : decode cX8_init 270 = .ok (.iastore, 1) := by decide +kernel
theorem dX8_init_271 : decode cX8_init 271 = .ok (.dup, 1) := by decide +kernel
theorem dX8_init_272 : decode cX8_init 272 = .ok (.bipush 23, 2) := by decide +kernel
theorem dX8_init_274 : decode cX8_init 274 = .ok (.ldc 84, 2) := by decide +kernel
theorem dX8_init_276 : decode cX8_init 276 = .ok (.iastore, 1) := by decide +kernel
theorem dX8_init_277 : decode cX8_init 277 = .ok (.dup, 1) := by decide +kernel
theorem dX8_init_278 : decode cX8_init 278 = .ok (.bipush 24, 2) := by decide +kernel
theorem dX8_init_280 : decode cX8_init 280 = .ok (.ldc 85, 2) := by decide +kernel
theorem dX8_init_282 : decode cX8_init 282 = .ok (.iastore, 1) := by decide +kernel
theorem dX8_init_283 : decode cX8_init 283 = .ok (.dup, 1) := by decide +kernel
theorem dX8_init_284 : decode cX8_init 284 = .ok (.bipush 25, 2) := by decide +kernel
theorem dX8_init_286 : decode cX8_init 286 = .ok (.ldc 86, 2) := by decide +kernel
theorem dX8_init_288 : decode cX8_init 288 = .ok (.iastore, 1) := by decide +kernel
theorem dX8_init_289 : decode cX8_init 289 = .ok (.dup, 1) := by decide +kernel
theorem dX8_init_290 : decode cX8_init 290 = .ok (.bipush 26, 2) := by decide +kernel
theorem dX8_init_292 : decode cX8_init 292 = .ok (.ldc 87, 2) := by decide +kernel
theorem dX8_init_294 : decode cX8_init 294 = .ok (.iastore, 1) := by decide +kernel
theorem dX8_init_295 : decode cX8_init 295 = .ok (.dup, 1) := by decide +kernel
theorem dX8_init_296 : decode cX8_init 296 = .ok (.bipush 27, 2) := by decide +kernel
theorem dX8_init_298 : decode cX8_init 298 = .ok (.ldc 88, 2) := by decide +kernel
theorem dX8_init_300 : decode cX8_init 300 = .ok (.iastore, 1) := by decide +kernel
theorem dX8_init_301 : decode cX8_init 301 = .ok (.dup, 1) := by decide +kernel
theorem dX8_init_302 : decode cX8_init 302 = .ok (.bipush 28, 2) := by decide +kernel
theorem dX8_init_304 : decode cX8_init 304 = .ok (.ldc 89, 2) := by decide +kernel
theorem dX8_init_306 : decode cX8_init 306 = .ok (.iastore, 1) := by decide +kernel
theorem dX8_init_307 : decode cX8_init 307 = .ok (.dup, 1) := by decide +kernel
theorem dX8_init_308 : decode cX8_init 308 = .ok (.bipush 29, 2) := by decide +kernel
theorem dX8_init_310 : decode cX8_init 310 = .ok (.ldc 90, 2) := by decide +kernel
theorem dX8_init_312 : decode cX8_init 312 = .ok (.iastore, 1) := by decide +kernel
theorem dX8_init_313 : decode cX8_init 313 = .ok (.dup, 1) := by decide +kernel
theorem dX8_init_314 : decode cX8_init 314 = .ok (.bipush 30, 2) := by decide +kernel
theorem dX8_init_316 : decode cX8_init 316 = .ok (.ldc 91, 2) := by decide +kernel
theorem dX8_init_318 : decode cX8_init 318 = .ok (.iastore, 1) := by decide +kernel
theorem dX8_init_319 : decode cX8_init 319 = .ok (.dup, 1) := by decide +kernel
theorem dX8_init_320 : decode cX8_init 320 = .ok (.bipush 31, 2) := by decide +kernel
theorem dX8_init_322 : decode cX8_init 322 = .ok (.ldc 92, 2) := by decide +kernel
theorem dX8_init_324 : decode cX8_init 324 = .ok (.iastore, 1) := by decide +kernel
theorem dX8_init_325 : decode cX8_init 325 = .ok (.dup, 1) := by decide +kernel
theorem dX8_init_326 : decode cX8_init 326 = .ok (.bipush 32, 2) := by decide +kernel
theorem dX8_init_328 : decode cX8_init 328 = .ok (.ldc 93, 2) := by decide +kernel
theorem dX8_init_330 : decode cX8_init 330 = .ok (.iastore, 1) := by decide +kernel
theorem dX8_init_331 : decode cX8_init 331 = .ok (.dup, 1) := by decide +kernel
theorem dX8_init_332 : decode cX8_init 332 = .ok (.bipush 33, 2) := by decide +kernel
theorem dX8_init_334 : decode cX8_init 334 = .ok (.ldc 94, 2) := by decide +kernel
theorem dX8_init_336 : decode cX8_init 336 = .ok (.iastore, 1) := by decide +kernel
theorem dX8_init_337 : decode cX8_init 337 = .ok (.dup, 1) := by decide +kernel
theorem dX8_init_338 : decode cX8_init 338 = .ok (.bipush 34, 2) := by decide +kernel
theorem dX8_init_340 : decode cX8_init 340 = .ok (.ldc 95, 2) := by decide +kernel
theorem dX8_init_342 : decode cX8_init 342 = .ok (.iastore, 1) := by decide +kernel
theorem dX8_init_343 : decode cX8_init 343 = .ok (.dup, 1) := by decide +kernel
theorem dX8_init_344 : decode cX8_init 344 = .ok (.bipush 35, 2) := by decide +kernel
theorem dX8_init_346 : decode cX8_init 346 = .ok (.ldc 96, 2) := by decide +kernel
theorem dX8_init_348 : decode cX8_init 348 = .ok (.iastore, 1) := by decide +kernel
theorem dX8_init_349 : decode cX8_init 349 = .ok (.dup, 1) := by decide +kernel
theorem dX8_init_350 : decode cX8_init 350 = .ok (.bipush 36, 2) := by decide +kernel
theorem dX8_init_352 : decode cX8_init 352 = .ok (.ldc 97, 2) := by decide +kernel
theorem dX8_init_354 : decode cX8_init 354 = .ok (.iastore, 1) := by decide +kernel
theorem dX8_init_355 : decode cX8_init 355 = .ok (.dup, 1) := by decide +kernel
theorem dX8_init_356 : decode cX8_init 356 = .ok (.bipush 37, 2) := by decide +kernel
theorem dX8_init_358 : decode cX8_init 358 = .ok (.ldc 98, 2) := by decide +kernel
theorem dX8_init_360 : decode cX8_init 360 = .ok (.iastore, 1) := by decide +kernel
theorem dX8_init_361 : decode cX8_init 361 = .ok (.dup, 1) := by decide +kernel
theorem dX8_init_362 : decode cX8_init 362 = .ok (.bipush 38, 2) := by decide +kernel
theorem dX8_init_364 : decode cX8_init 364 = .ok (.ldc 99, 2) := by decide +kernel
theorem dX8_init_366 : decode cX8_init 366 = .ok (.iastore, 1) := by decide +kernel
theorem dX8_init_367 : decode cX8_init 367 = .ok (.dup, 1) := by decide +kernel
theorem dX8_init_368 : decode cX8_init 368 = .ok (.bipush 39, 2) := by decide +kernel
theorem dX8_init_370 : decode cX8_init 370 = .ok (.ldc 100, 2) := by decide +kernel
theorem dX8_init_372 : decode cX8_init 372 = .ok (.iastore, 1) := by decide +kernel
theorem dX8_init_373 : decode cX8_init 373 = .ok (.dup, 1) := by decide +kernel
theorem dX8_init_374 : decode cX8_init 374 = .ok (.bipush 40, 2) := by decide +kernel
theorem dX8_init_376 : decode cX8_init 376 = .ok (.ldc 101, 2) := by decide +kernel
theorem dX8_init_378 : decode cX8_init 378 = .ok (.iastore, 1) := by decide +kernel
theorem dX8_init_379 : decode cX8_init 379 = .ok (.dup, 1) := by decide +kernel
theorem dX8_init_380 : decode cX8_init 380 = .ok (.bipush 41, 2) := by decide +kernel
theorem dX8_init_382 : decode cX8_init 382 = .ok (.ldc 102, 2) := by decide +kernel
theorem dX8_init_384 : decode cX8_init 384 = .ok (.iastore, 1) := by decide +kernel
theorem dX8_init_385 : decode cX8_init 385 = .ok (.dup, 1) := by decide +kernel
theorem dX8_init_386 : decode cX8_init 386 = .ok (.bipush 42, 2) := by decide +kernel
theorem dX8_init_388 : decode cX8_init 388 = .ok (.ldc 103, 2) := by decide +kernel
theorem dX8_init_390 : decode cX8_init 390 = .ok (.iastore, 1) := by decide +kernel
theorem dX8_init_391 : decode cX8_init 391 = .ok (.dup, 1) := by decide +kernel
theorem dX8_init_392 : decode cX8_init 392 = .ok (.bipush 43, 2) := by decide +kernel
theorem dX8_init_394 : decode cX8_init 394 = .ok (.ldc 104, 2) := by decide +kernel
theorem dX8_init_396 : decode cX8_init 396 = .ok (.iastore, 1) := by decide +kernel
theorem dX8_init_397 : decode cX8_init 397 = .ok (.dup, 1) := by decide +kernel
theorem dX8_init_398 : decode cX8_init 398 = .ok (.bipush 44, 2) := by decide +kernel
theorem dX8_init_400 : decode cX8_init 400 = .ok (.ldc 105, 2) := by decide +kernel
theorem dX8_init_402 : decode cX8_init 402 = .ok (.iastore, 1) := by decide +kernel
theorem dX8_init_403 : decode cX8_init 403 = .ok (.dup, 1) := by decide +kernel
theorem dX8_init_404 : decode cX8_init 404 = .ok (.bipush 45, 2) := by decide +kernel
theorem dX8_init_406 : decode cX8_init 406 = .ok (.ldc 106, 2) := by decide +kernel
theorem dX8_init_408 : decode cX8_init 408 = .ok (.iastore, 1) := by decide +kernel
theorem dX8_init_409 : decode cX8_init 409 = .ok (.dup, 1) := by decide +kernel
theorem dX8_init_410 : decode cX8_init 410 = .ok (.bipush 46, 2) := by decide +kernel
theorem dX8_init_412 : decode cX8_init 412 = .ok (.ldc 107, 2) := by decide +kernel
theorem dX8_init_414 : decode cX8_init 414 = .ok (.iastore, 1) := by decide +kernel
theorem dX8_init_415 : decode cX8_init 415 = .ok (.dup, 1) := by decide +kernel
theorem dX8_init_416 : decode cX8_init 416 = .ok (.bipush 47, 2) := by decide +kernel
theorem dX8_init_418 : decode cX8_init 418 = .ok (.ldc 108, 2) := by decide +kernel
theorem dX8_init_420 : decode cX8_init 420 = .ok (.iastore, 1) := by decide +kernel
theorem dX8_init_421 : decode cX8_init 421 = .ok (.dup, 1) := by decide +kernel
theorem dX8_init_422 : decode cX8_init 422 = .ok (.bipush 48, 2) := by decide +kernel
theorem dX8_init_424 : decode cX8_init 424 = .ok (.ldc 109, 2) := by decide +kernel
theorem dX8_init_426 : decode cX8_init 426 = .ok (.iastore, 1) := by decide +kernel
theorem dX8_init_427 : decode cX8_init 427 = .ok (.dup, 1) := by decide +kernel
theorem dX8_init_428 : decode cX8_init 428 = .ok (.bipush 49, 2) := by decide +kernel
theorem dX8_init_430 : decode cX8_init 430 = .ok (.ldc 110, 2) := by decide +kernel
theorem dX8_init_432 : decode cX8_init 432 = .ok (.iastore, 1) := by decide +kernel
theorem dX8_init_433 : decode cX8_init 433 = .ok (.dup, 1) := by decide +kernel
theorem dX8_init_434 : decode cX8_init 434 = .ok (.bipush 50, 2) := by decide +kernel
theorem dX8_init_436 : decode cX8_init 436 = .ok (.ldc 111, 2) := by decide +kernel
theorem dX8_init_438 : decode cX8_init 438 = .ok (.iastore, 1) := by decide +kernel
theorem dX8_init_439 : decode cX8_init 439 = .ok (.dup, 1) := by decide +kernel
theorem dX8_init_440 : decode cX8_init 440 = .ok (.bipush 51, 2) := by decide +kernel
theorem dX8_init_442 : decode cX8_init 442 = .ok (.ldc 112, 2) := by decide +kernel
theorem dX8_init_444 : decode cX8_init 444 = .ok (.iastore, 1) := by decide +kernel
theorem dX8_init_445 : decode cX8_init 445 = .ok (.dup, 1) := by decide +kernel
theorem dX8_init_446 : decode cX8_init 446 = .ok (.bipush 52, 2) := by decide +kernel
theorem dX8_init_448 : decode cX8_init 448 = .ok (.ldc 113, 2) := by decide +kernel
theorem dX8_init_450 : decode cX8_init 450 = .ok (.iastore, 1) := by decide +kernel
theorem dX8_init_451 : decode cX8_init 451 = .ok (.dup, 1) := by decide +kernel
theorem dX8_init_452 : decode cX8_init 452 = .ok (.bipush 53, 2) := by decide +kernel
theorem dX8_init_454 : decode cX8_init 454 = .ok (.ldc 114, 2) := by decide +kernel
theorem dX8_init_456 : decode cX8_init 456 = .ok (.iastore, 1) := by decide +kernel
theorem dX8_init_457 : decode cX8_init 457 = .ok (.dup, 1) := by decide +kernel
theorem dX8_init_458 : decode cX8_init 458 = .ok (.bipush 54, 2) := by decide +kernel
theorem dX8_init_460 : decode cX8_init 460 = .ok (.ldc 115, 2) := by decide +kernel
theorem dX8_init_462 : decode cX8_init 462 = .ok (.iastore, 1) := by decide +kernel
theorem dX8_init_463 : decode cX8_init 463 = .ok (.dup, 1) := by decide +kernel
theorem dX8_init_464 : decode cX8_init 464 = .ok (.bipush 55, 2) := by decide +kernel
theorem dX8_init_466 : decode cX8_init 466 = .ok (.ldc 116, 2) := by decide +kernel
theorem dX8_init_468 : decode cX8_init 468 = .ok (.iastore, 1) := by decide +kernel
theorem dX8_init_469 : decode cX8_init 469 = .ok (.dup, 1) := by decide +kernel
theorem dX8_init_470 : decode cX8_init 470 = .ok (.bipush 56, 2) := by decide +kernel
theorem dX8_init_472 : decode cX8_init 472 = .ok (.ldc 117, 2) := by decide +kernel
theorem dX8_init_474 : decode cX8_init 474 = .ok (.iastore, 1) := by decide +kernel
theorem dX8_init_475 : decode cX8_init 475 = .ok (.dup, 1) := by decide +kernel
theorem dX8_init_476 : decode cX8_init 476 = .ok (.bipush 57, 2) := by decide +kernel
theorem dX8_init_478 : decode cX8_init 478 = .ok (.ldc 118, 2) := by decide +kernel
theorem dX8_init_480 : decode cX8_init 480 = .ok (.iastore, 1) := by decide +kernel
theorem dX8_init_481 : decode cX8_init 481 = .ok (.dup, 1) := by decide +kernel
theorem dX8_init_482 : decode cX8_init 482 = .ok (.bipush 58, 2) := by decide +kernel
theorem dX8_init_484 : decode cX8_init 484 = .ok (.ldc 119, 2) := by decide +kernel
theorem dX8_init_486 : decode cX8_init 486 = .ok (.iastore, 1) := by decide +kernel
theorem dX8_init_487 : decode cX8_init 487 = .ok (.dup, 1) := by decide +kernel
theorem dX8_init_488 : decode cX8_init 488 = .ok (.bipush 59, 2) := by decide +kernel
theorem dX8_init_490 : decode cX8_init 490 = .ok (.ldc 120, 2) := by decide +kernel
theorem dX8_init_492 : decode cX8_init 492 = .ok (.iastore, 1) := by decide +kernel
theorem dX8_init_493 : decode cX8_init 493 = .ok (.dup, 1) := by decide +kernel
theorem dX8_init_494 : decode cX8_init 494 = .ok (.bipush 60, 2) := by decide +kernel
theorem dX8_init_496 : decode cX8_init 496 = .ok (.ldc 121, 2) := by decide +kernel
theorem dX8_init_498 : decode cX8_init 498 = .ok (.iastore, 1) := by decide +kernel
theorem dX8_init_499 : decode cX8_init 499 = .ok (.dup, 1) := by decide +kernel
theorem dX8_init_500 : decode cX8_init 500 = .ok (.bipush 61, 2) := by decide +kernel
theorem dX8_init_502 : decode cX8_init 502 = .ok (.ldc 122, 2) := by decide +kernel
theorem dX8_init_504 : decode cX8_init 504 = .ok (.iastore, 1) := by decide +kernel
theorem dX8_init_505 : decode cX8_init 505 = .ok (.dup, 1) := by decide +kernel
theorem dX8_init_506 : decode cX8_init 506 = .ok (.bipush 62, 2) := by decide +kernel
theorem dX8_init_508 : decode cX8_init 508 = .ok (.ldc 123, 2) := by decide +kernel
theorem dX8_init_510 : decode cX8_init 510 = .ok (.iastore, 1) := by decide +kernel
theorem dX8_init_511 : decode cX8_init 511 = .ok (.dup, 1) := by decide +kernel
theorem dX8_init_512 : decode cX8_init 512 = .ok (.bipush 63, 2) := by decide +kernel
theorem dX8_init_514 : decode cX8_init 514 = .ok (.ldc 124, 2) := by decide +kernel
theorem dX8_init_516 : decode cX8_init 516 = .ok (.iastore, 1) := by decide +kernel
theorem dX8_init_517 : decode cX8_init 517 = .ok (.putfield 125, 3) := by decide +kernel
theorem dX8_init_520 : decode cX8_init 520 = .ok (.aload_n 0, 1) := by decide +kernel
theorem dX8_init_521 : decode cX8_init 521 = .ok (.sipush 800, 3) := by decide +kernel
theorem dX8_init_524 : decode cX8_init 524 = .ok (.newarray .int, 2) := by decide +kernel
theorem dX8_init_526 : decode cX8_init 526 = .ok (.putfield 128, 3) := by decide +kernel
theorem dX8_init_529 : decode cX8_init 529 = .ok (.aload_n 0, 1) := by decide +kernel
theorem dX8_init_530 : decode cX8_init 530 = .ok (.bipush 70, 2) := by decide +kernel
theorem dX8_init_532 : decode cX8_init 532 = .ok (.newarray .int, 2) := by decide +kernel
theorem dX8_init_534 : decode cX8_init 534 = .ok (.putfield 131, 3) := by decide +kernel
theorem dX8_init_537 : decode cX8_init 537 = .ok (.return_, 1) := by decide +kernel
theorem dX8_thrown_0 : decode cX8_thrown 0 = .ok (.aload_n 0, 1) := by decide +kernel
theorem dX8_thrown_1 : decode cX8_thrown 1 = .ok (.getfield 134, 3) := by decide +kernel
theorem dX8_thrown_4 : decode cX8_thrown 4 = .ok (.ireturn, 1) := by decide +kernel
theorem dX8_four_0 : decode cX8_four 0 = .ok (.iconst 0, 1) := by decide +kernel
theorem dX8_four_1 : decode cX8_four 1 = .ok (.istore_n 2, 1) := by decide +kernel
theorem dX8_four_2 : decode cX8_four 2 = .ok (.iload_n 2, 1) := by decide +kernel
theorem dX8_four_3 : decode cX8_four 3 = .ok (.iconst 4, 1) := by decide +kernel
theorem dX8_four_4 : decode cX8_four 4 = .ok (.if_icmp .ge 33, 3) := by decide +kernel
theorem dX8_four_7 : decode cX8_four 7 = .ok (.aload_n 0, 1) := by decide +kernel
theorem dX8_four_8 : decode cX8_four 8 = .ok (.getfield 7, 3) := by decide +kernel
theorem dX8_four_11 : decode cX8_four 11 = .ok (.aload_n 0, 1) := by decide +kernel
theorem dX8_four_12 : decode cX8_four 12 = .ok (.getfield 138, 3) := by decide +kernel
theorem dX8_four_15 : decode cX8_four 15 = .ok (.iload_n 2, 1) := by decide +kernel
theorem dX8_four_16 : decode cX8_four 16 = .ok (.iadd, 1) := by decide +kernel
theorem dX8_four_17 : decode cX8_four 17 = .ok (.iload_n 1, 1) := by decide +kernel
theorem dX8_four_18 : decode cX8_four 18 = .ok (.bipush 24, 2) := by decide +kernel
theorem dX8_four_20 : decode cX8_four 20 = .ok (.bipush 8, 2) := by decide +kernel
theorem dX8_four_22 : decode cX8_four 22 = .ok (.iload_n 2, 1) := by decide +kernel
theorem dX8_four_23 : decode cX8_four 23 = .ok (.imul, 1) := by decide +kernel
theorem dX8_four_24 : decode cX8_four 24 = .ok (.isub, 1) := by decide +kernel
theorem dX8_four_25 : decode cX8_four 25 = .ok (.ishr, 1) := by decide +kernel
theorem dX8_four_26 : decode cX8_four 26 = .ok (.sipush 255, 3) := by decide +kernel
theorem dX8_four_29 : decode cX8_four 29 = .ok (.iand, 1) := by decide +kernel
theorem dX8_four_30 : decode cX8_four 30 = .ok (.iastore, 1) := by decide +kernel
theorem dX8_four_31 : decode cX8_four 31 = .ok (.iinc 2 1, 3) := by decide +kernel
theorem dX8_four_34 : decode cX8_four 34 = .ok (.goto (-32), 3) := by decide +kernel
theorem dX8_four_37 : decode cX8_four 37 = .ok (.aload_n 0, 1) := by decide +kernel
theorem dX8_four_38 : decode cX8_four 38 = .ok (.dup, 1) := by decide +kernel
theorem dX8_four_39 : decode cX8_four 39 = .ok (.getfield 138, 3) := by decide +kernel
theorem dX8_four_42 : decode cX8_four 42 = .ok (.iconst 4, 1) := by decide +kernel
theorem dX8_four_43 : decode cX8_four 43 = .ok (.iadd, 1) := by decide +kernel
theorem dX8_four_44 : decode cX8_four 44 = .ok (.putfield 138, 3) := by decide +kernel
theorem dX8_four_47 : decode cX8_four 47 = .ok (.return_, 1) := by decide +kernel
theorem dX8_feed_0 : decode cX8_feed 0 = .ok (.aload_n 0, 1) := by decide +kernel
theorem dX8_feed_1 : decode cX8_feed 1 = .ok (.iconst 0, 1) := by decide +kernel
theorem dX8_feed_2 : decode cX8_feed 2 = .ok (.putfield 134, 3) := by decide +kernel
theorem dX8_feed_5 : decode cX8_feed 5 = .ok (.aload_n 0, 1) := by decide +kernel
theorem dX8_feed_6 : decode cX8_feed 6 = .ok (.getfield 138, 3) := by decide +kernel
theorem dX8_feed_9 : decode cX8_feed 9 = .ok (.bipush 20, 2) := by decide +kernel
theorem dX8_feed_11 : decode cX8_feed 11 = .ok (.iadd, 1) := by decide +kernel
theorem dX8_feed_12 : decode cX8_feed 12 = .ok (.sipush 2200, 3) := by decide +kernel
theorem dX8_feed_15 : decode cX8_feed 15 = .ok (.if_icmp .le 5, 3) := by decide +kernel
theorem dX8_feed_18 : decode cX8_feed 18 = .ok (.iconst (-1), 1) := by decide +kernel
theorem dX8_feed_19 : decode cX8_feed 19 = .ok (.ireturn, 1) := by decide +kernel
theorem dX8_feed_20 : decode cX8_feed 20 = .ok (.aload_n 0, 1) := by decide +kernel
theorem dX8_feed_21 : decode cX8_feed 21 = .ok (.iload_n 1, 1) := by decide +kernel
theorem dX8_feed_22 : decode cX8_feed 22 = .ok (.invokevirtual 141, 3) := by decide +kernel
theorem dX8_feed_25 : decode cX8_feed 25 = .ok (.aload_n 0, 1) := by decide +kernel
theorem dX8_feed_26 : decode cX8_feed 26 = .ok (.iload_n 2, 1) := by decide +kernel
theorem dX8_feed_27 : decode cX8_feed 27 = .ok (.invokevirtual 141, 3) := by decide +kernel
theorem dX8_feed_30 : decode cX8_feed 30 = .ok (.aload_n 0, 1) := by decide +kernel
theorem dX8_feed_31 : decode cX8_feed 31 = .ok (.iload_n 3, 1) := by decide +kernel
theorem dX8_feed_32 : decode cX8_feed 32 = .ok (.invokevirtual 141, 3) := by decide +kernel
theorem dX8_feed_35 : decode cX8_feed 35 = .ok (.aload_n 0, 1) := by decide +kernel
theorem dX8_feed_36 : decode cX8_feed 36 = .ok (.iload 4, 2) := by decide +kernel
theorem dX8_feed_38 : decode cX8_feed 38 = .ok (.invokevirtual 141, 3) := by decide +kernel
theorem dX8_feed_41 : decode cX8_feed 41 = .ok (.aload_n 0, 1) := by decide +kernel
theorem dX8_feed_42 : decode cX8_feed 42 = .ok (.iload 5, 2) := by decide +kernel
theorem dX8_feed_44 : decode cX8_feed 44 = .ok (.invokevirtual 141, 3) := by decide +kernel
theorem dX8_feed_47 : decode cX8_feed 47 = .ok (.aload_n 0, 1) := by decide +kernel
theorem dX8_feed_48 : decode cX8_feed 48 = .ok (.getfield 138, 3) := by decide +kernel
theorem dX8_feed_51 : decode cX8_feed 51 = .ok (.ireturn, 1) := by decide +kernel
theorem dX8_end_0 : decode cX8_end 0 = .ok (.aload_n 0, 1) := by decide +kernel
theorem dX8_end_1 : decode cX8_end 1 = .ok (.iconst 0, 1) := by decide +kernel
theorem dX8_end_2 : decode cX8_end 2 = .ok (.putfield 134, 3) := by decide +kernel
theorem dX8_end_5 : decode cX8_end 5 = .ok (.iload_n 1, 1) := by decide +kernel
theorem dX8_end_6 : decode cX8_end 6 = .ok (.ifCond .lt 11, 3) := by decide +kernel
theorem dX8_end_9 : decode cX8_end 9 = .ok (.iload_n 1, 1) := by decide +kernel
theorem dX8_end_10 : decode cX8_end 10 = .ok (.aload_n 0, 1) := by decide +kernel
theorem dX8_end_11 : decode cX8_end 11 = .ok (.getfield 138, 3) := by decide +kernel
theorem dX8_end_14 : decode cX8_end 14 = .ok (.if_icmp .le 5, 3) := by decide +kernel
theorem dX8_end_17 : decode cX8_end 17 = .ok (.iconst 0, 1) := by decide +kernel
theorem dX8_end_18 : decode cX8_end 18 = .ok (.ireturn, 1) := by decide +kernel
theorem dX8_end_19 : decode cX8_end 19 = .ok (.aload_n 0, 1) := by decide +kernel
theorem dX8_end_20 : decode cX8_end 20 = .ok (.iload_n 1, 1) := by decide +kernel
theorem dX8_end_21 : decode cX8_end 21 = .ok (.putfield 138, 3) := by decide +kernel
theorem dX8_end_24 : decode cX8_end 24 = .ok (.iconst 1, 1) := by decide +kernel
theorem dX8_end_25 : decode cX8_end 25 = .ok (.ireturn, 1) := by decide +kernel
theorem dX8_again_0 : decode cX8_again 0 = .ok (.aload_n 0, 1) := by decide +kernel
theorem dX8_again_1 : decode cX8_again 1 = .ok (.iconst 0, 1) := by decide +kernel
theorem dX8_again_2 : decode cX8_again 2 = .ok (.putfield 134, 3) := by decide +kernel
theorem dX8_again_5 : decode cX8_again 5 = .ok (.aload_n 0, 1) := by decide +kernel
theorem dX8_again_6 : decode cX8_again 6 = .ok (.getfield 138, 3) := by decide +kernel
theorem dX8_again_9 : decode cX8_again 9 = .ok (.aload_n 0, 1) := by decide +kernel
theorem dX8_again_10 : decode cX8_again 10 = .ok (.getfield 145, 3) := by decide +kernel
theorem dX8_again_13 : decode cX8_again 13 = .ok (.iadd, 1) := by decide +kernel
theorem dX8_again_14 : decode cX8_again 14 = .ok (.sipush 2200, 3) := by decide +kernel
theorem dX8_again_17 : decode cX8_again 17 = .ok (.if_icmp .le 5, 3) := by decide +kernel
theorem dX8_again_20 : decode cX8_again 20 = .ok (.iconst (-1), 1) := by decide +kernel
theorem dX8_again_21 : decode cX8_again 21 = .ok (.ireturn, 1) := by decide +kernel
theorem dX8_again_22 : decode cX8_again 22 = .ok (.iconst 0, 1) := by decide +kernel
theorem dX8_again_23 : decode cX8_again 23 = .ok (.istore_n 1, 1) := by decide +kernel
theorem dX8_again_24 : decode cX8_again 24 = .ok (.iload_n 1, 1) := by decide +kernel
theorem dX8_again_25 : decode cX8_again 25 = .ok (.aload_n 0, 1) := by decide +kernel
theorem dX8_again_26 : decode cX8_again 26 = .ok (.getfield 145, 3) := by decide +kernel
theorem dX8_again_29 : decode cX8_again 29 = .ok (.if_icmp .ge 26, 3) := by decide +kernel
theorem dX8_again_32 : decode cX8_again 32 = .ok (.aload_n 0, 1) := by decide +kernel
theorem dX8_again_33 : decode cX8_again 33 = .ok (.getfield 7, 3) := by decide +kernel
theorem dX8_again_36 : decode cX8_again 36 = .ok (.aload_n 0, 1) := by decide +kernel
theorem dX8_again_37 : decode cX8_again 37 = .ok (.getfield 138, 3) := by decide +kernel
theorem dX8_again_40 : decode cX8_again 40 = .ok (.iload_n 1, 1) := by decide +kernel
theorem dX8_again_41 : decode cX8_again 41 = .ok (.iadd, 1) := by decide +kernel
theorem dX8_again_42 : decode cX8_again 42 = .ok (.aload_n 0, 1) := by decide +kernel
theorem dX8_again_43 : decode cX8_again 43 = .ok (.getfield 13, 3) := by decide +kernel
theorem dX8_again_46 : decode cX8_again 46 = .ok (.iload_n 1, 1) := by decide +kernel
theorem dX8_again_47 : decode cX8_again 47 = .ok (.iaload, 1) := by decide +kernel
theorem dX8_again_48 : decode cX8_again 48 = .ok (.iastore, 1) := by decide +kernel
theorem dX8_again_49 : decode cX8_again 49 = .ok (.iinc 1 1, 3) := by decide +kernel
theorem dX8_again_52 : decode cX8_again 52 = .ok (.goto (-28), 3) := by decide +kernel
theorem dX8_again_55 : decode cX8_again 55 = .ok (.aload_n 0, 1) := by decide +kernel
theorem dX8_again_56 : decode cX8_again 56 = .ok (.dup, 1) := by decide +kernel
theorem dX8_again_57 : decode cX8_again 57 = .ok (.getfield 138, 3) := by decide +kernel
theorem dX8_again_60 : decode cX8_again 60 = .ok (.aload_n 0, 1) := by decide +kernel
theorem dX8_again_61 : decode cX8_again 61 = .ok (.getfield 145, 3) := by decide +kernel
theorem dX8_again_64 : decode cX8_again 64 = .ok (.iadd, 1) := by decide +kernel
theorem dX8_again_65 : decode cX8_again 65 = .ok (.putfield 138, 3) := by decide +kernel
theorem dX8_again_68 : decode cX8_again 68 = .ok (.aload_n 0, 1) := by decide +kernel
theorem dX8_again_69 : decode cX8_again 69 = .ok (.getfield 138, 3) := by decide +kernel
theorem dX8_again_72 : decode cX8_again 72 = .ok (.ireturn, 1) := by decide +kernel
theorem dX8_out_0 : decode cX8_out 0 = .ok (.aload_n 0, 1) := by decide +kernel
theorem dX8_out_1 : decode cX8_out 1 = .ok (.iconst 0, 1) := by decide +kernel
theorem dX8_out_2 : decode cX8_out 2 = .ok (.putfield 134, 3) := by decide +kernel
theorem dX8_out_5 : decode cX8_out 5 = .ok (.iload_n 1, 1) := by decide +kernel
theorem dX8_out_6 : decode cX8_out 6 = .ok (.ifCond .lt 11, 3) := by decide +kernel
theorem dX8_out_9 : decode cX8_out 9 = .ok (.iload_n 1, 1) := by decide +kernel
theorem dX8_out_10 : decode cX8_out 10 = .ok (.aload_n 0, 1) := by decide +kernel
theorem dX8_out_11 : decode cX8_out 11 = .ok (.getfield 145, 3) := by decide +kernel
theorem dX8_out_14 : decode cX8_out 14 = .ok (.if_icmp .lt 7, 3) := by decide +kernel
theorem dX8_out_17 : decode cX8_out 17 = .ok (.iconst (-1), 1) := by decide +kernel
theorem dX8_out_18 : decode cX8_out 18 = .ok (.goto 9, 3) := by decide +kernel
theorem dX8_out_21 : decode cX8_out 21 = .ok (.aload_n 0, 1) := by decide +kernel
theorem dX8_out_22 : decode cX8_out 22 = .ok (.getfield 13, 3) := by decide +kernel
theorem dX8_out_25 : decode cX8_out 25 = .ok (.iload_n 1, 1) := by decide +kernel
theorem dX8_out_26 : decode cX8_out 26 = .ok (.iaload, 1) := by decide +kernel
theorem dX8_out_27 : decode cX8_out 27 = .ok (.ireturn, 1) := by decide +kernel
theorem dX8_outs_0 : decode cX8_outs 0 = .ok (.aload_n 0, 1) := by decide +kernel
theorem dX8_outs_1 : decode cX8_outs 1 = .ok (.iconst 0, 1) := by decide +kernel
theorem dX8_outs_2 : decode cX8_outs 2 = .ok (.putfield 134, 3) := by decide +kernel
theorem dX8_outs_5 : decode cX8_outs 5 = .ok (.aload_n 0, 1) := by decide +kernel
theorem dX8_outs_6 : decode cX8_outs 6 = .ok (.getfield 145, 3) := by decide +kernel
theorem dX8_outs_9 : decode cX8_outs 9 = .ok (.ireturn, 1) := by decide +kernel
theorem dX8_use_0 : decode cX8_use 0 = .ok (.aload_n 0, 1) := by decide +kernel
theorem dX8_use_1 : decode cX8_use 1 = .ok (.getfield 138, 3) := by decide +kernel
theorem dX8_use_4 : decode cX8_use 4 = .ok (.istore_n 1, 1) := by decide +kernel
theorem dX8_use_5 : decode cX8_use 5 = .ok (.aload_n 0, 1) := by decide +kernel
theorem dX8_use_6 : decode cX8_use 6 = .ok (.iconst 0, 1) := by decide +kernel
theorem dX8_use_7 : decode cX8_use 7 = .ok (.putfield 138, 3) := by decide +kernel
theorem dX8_use_10 : decode cX8_use 10 = .ok (.iload_n 1, 1) := by decide +kernel
theorem dX8_use_11 : decode cX8_use 11 = .ok (.ireturn, 1) := by decide +kernel
theorem dX8_isLog_0 : decode cX8_isLog 0 = .ok (.iload_n 0, 1) := by decide +kernel
theorem dX8_isLog_1 : decode cX8_isLog 1 = .ok (.ifCond .eq 8, 3) := by decide +kernel
theorem dX8_isLog_4 : decode cX8_isLog 4 = .ok (.iload_n 0, 1) := by decide +kernel
theorem dX8_isLog_5 : decode cX8_isLog 5 = .ok (.iconst 1, 1) := by decide +kernel
theorem dX8_isLog_6 : decode cX8_isLog 6 = .ok (.if_icmp .ne 7, 3) := by decide +kernel
theorem dX8_isLog_9 : decode cX8_isLog 9 = .ok (.iconst 1, 1) := by decide +kernel
theorem dX8_isLog_10 : decode cX8_isLog 10 = .ok (.goto 4, 3) := by decide +kernel
theorem dX8_isLog_13 : decode cX8_isLog 13 = .ok (.iconst 0, 1) := by decide +kernel
theorem dX8_isLog_14 : decode cX8_isLog 14 = .ok (.ireturn, 1) := by decide +kernel
theorem dX8_tapeLong_0 : decode cX8_tapeLong 0 = .ok (.lconst 0, 1) := by decide +kernel
theorem dX8_tapeLong_1 : decode cX8_tapeLong 1 = .ok (.lstore_n 2, 1) := by decide +kernel
theorem dX8_tapeLong_2 : decode cX8_tapeLong 2 = .ok (.iconst 0, 1) := by decide +kernel
theorem dX8_tapeLong_3 : decode cX8_tapeLong 3 = .ok (.istore 4, 2) := by decide +kernel
theorem dX8_tapeLong_5 : decode cX8_tapeLong 5 = .ok (.iload 4, 2) := by decide +kernel
theorem dX8_tapeLong_7 : decode cX8_tapeLong 7 = .ok (.bipush 8, 2) := by decide +kernel
theorem dX8_tapeLong_9 : decode cX8_tapeLong 9 = .ok (.if_icmp .ge 25, 3) := by decide +kernel
theorem dX8_tapeLong_12 : decode cX8_tapeLong 12 = .ok (.lload_n 2, 1) := by decide +kernel
theorem dX8_tapeLong_13 : decode cX8_tapeLong 13 = .ok (.bipush 8, 2) := by decide +kernel
theorem dX8_tapeLong_15 : decode cX8_tapeLong 15 = .ok (.lshl, 1) := by decide +kernel
theorem dX8_tapeLong_16 : decode cX8_tapeLong 16 = .ok (.aload_n 0, 1) := by decide +kernel
theorem dX8_tapeLong_17 : decode cX8_tapeLong 17 = .ok (.getfield 7, 3) := by decide +kernel
theorem dX8_tapeLong_20 : decode cX8_tapeLong 20 = .ok (.iload_n 1, 1) := by decide +kernel
theorem dX8_tapeLong_21 : decode cX8_tapeLong 21 = .ok (.iload 4, 2) := by decide +kernel
theorem dX8_tapeLong_23 : decode cX8_tapeLong 23 = .ok (.iadd, 1) := by decide +kernel
theorem dX8_tapeLong_24 : decode cX8_tapeLong 24 = .ok (.iaload, 1) := by decide +kernel
theorem dX8_tapeLong_25 : decode cX8_tapeLong 25 = .ok (.i2l, 1) := by decide +kernel
theorem dX8_tapeLong_26 : decode cX8_tapeLong 26 = .ok (.lor, 1) := by decide +kernel
theorem dX8_tapeLong_27 : decode cX8_tapeLong 27 = .ok (.lstore_n 2, 1) := by decide +kernel
theorem dX8_tapeLong_28 : decode cX8_tapeLong 28 = .ok (.iinc 4 1, 3) := by decide +kernel
theorem dX8_tapeLong_31 : decode cX8_tapeLong 31 = .ok (.goto (-26), 3) := by decide +kernel
theorem dX8_tapeLong_34 : decode cX8_tapeLong 34 = .ok (.lload_n 2, 1) := by decide +kernel
theorem dX8_tapeLong_35 : decode cX8_tapeLong 35 = .ok (.lreturn, 1) := by decide +kernel
theorem dX8_say_0 : decode cX8_say 0 = .ok (.aload_n 0, 1) := by decide +kernel
theorem dX8_say_1 : decode cX8_say 1 = .ok (.getfield 52, 3) := by decide +kernel
theorem dX8_say_4 : decode cX8_say 4 = .ok (.aload_n 0, 1) := by decide +kernel
theorem dX8_say_5 : decode cX8_say 5 = .ok (.getfield 148, 3) := by decide +kernel
theorem dX8_say_8 : decode cX8_say 8 = .ok (.iload_n 1, 1) := by decide +kernel
theorem dX8_say_9 : decode cX8_say 9 = .ok (.sipush 255, 3) := by decide +kernel
theorem dX8_say_12 : decode cX8_say 12 = .ok (.iand, 1) := by decide +kernel
theorem dX8_say_13 : decode cX8_say 13 = .ok (.iastore, 1) := by decide +kernel
theorem dX8_say_14 : decode cX8_say 14 = .ok (.aload_n 0, 1) := by decide +kernel
theorem dX8_say_15 : decode cX8_say 15 = .ok (.dup, 1) := by decide +kernel
theorem dX8_say_16 : decode cX8_say 16 = .ok (.getfield 148, 3) := by decide +kernel
theorem dX8_say_19 : decode cX8_say 19 = .ok (.iconst 1, 1) := by decide +kernel
theorem dX8_say_20 : decode cX8_say 20 = .ok (.iadd, 1) := by decide +kernel
theorem dX8_say_21 : decode cX8_say 21 = .ok (.putfield 148, 3) := by decide +kernel
theorem dX8_say_24 : decode cX8_say 24 = .ok (.return_, 1) := by decide +kernel
theorem dX8_sayLong_0 : decode cX8_sayLong 0 = .ok (.bipush 56, 2) := by decide +kernel
theorem dX8_sayLong_2 : decode cX8_sayLong 2 = .ok (.istore_n 3, 1) := by decide +kernel
theorem dX8_sayLong_3 : decode cX8_sayLong 3 = .ok (.iload_n 3, 1) := by decide +kernel
theorem dX8_sayLong_4 : decode cX8_sayLong 4 = .ok (.ifCond .lt 17, 3) := by decide +kernel
theorem dX8_sayLong_7 : decode cX8_sayLong 7 = .ok (.aload_n 0, 1) := by decide +kernel
theorem dX8_sayLong_8 : decode cX8_sayLong 8 = .ok (.lload_n 1, 1) := by decide +kernel
theorem dX8_sayLong_9 : decode cX8_sayLong 9 = .ok (.iload_n 3, 1) := by decide +kernel
theorem dX8_sayLong_10 : decode cX8_sayLong 10 = .ok (.lshr, 1) := by decide +kernel
theorem dX8_sayLong_11 : decode cX8_sayLong 11 = .ok (.l2i, 1) := by decide +kernel
theorem dX8_sayLong_12 : decode cX8_sayLong 12 = .ok (.invokevirtual 151, 3) := by decide +kernel
theorem dX8_sayLong_15 : decode cX8_sayLong 15 = .ok (.iinc 3 (-8), 3) := by decide +kernel
theorem dX8_sayLong_18 : decode cX8_sayLong 18 = .ok (.goto (-15), 3) := by decide +kernel
theorem dX8_sayLong_21 : decode cX8_sayLong 21 = .ok (.return_, 1) := by decide +kernel
theorem dX8_saySlot_0 : decode cX8_saySlot 0 = .ok (.iconst 0, 1) := by decide +kernel
theorem dX8_saySlot_1 : decode cX8_saySlot 1 = .ok (.istore_n 2, 1) := by decide +kernel
theorem dX8_saySlot_2 : decode cX8_saySlot 2 = .ok (.iload_n 2, 1) := by decide +kernel
theorem dX8_saySlot_3 : decode cX8_saySlot 3 = .ok (.bipush 32, 2) := by decide +kernel
theorem dX8_saySlot_5 : decode cX8_saySlot 5 = .ok (.if_icmp .ge 36, 3) := by decide +kernel
theorem dX8_saySlot_8 : decode cX8_saySlot 8 = .ok (.aload_n 0, 1) := by decide +kernel
theorem dX8_saySlot_9 : decode cX8_saySlot 9 = .ok (.aload_n 0, 1) := by decide +kernel
theorem dX8_saySlot_10 : decode cX8_saySlot 10 = .ok (.getfield 128, 3) := by decide +kernel
theorem dX8_saySlot_13 : decode cX8_saySlot 13 = .ok (.bipush 8, 2) := by decide +kernel
theorem dX8_saySlot_15 : decode cX8_saySlot 15 = .ok (.iload_n 1, 1) := by decide +kernel
theorem dX8_saySlot_16 : decode cX8_saySlot 16 = .ok (.imul, 1) := by decide +kernel
theorem dX8_saySlot_17 : decode cX8_saySlot 17 = .ok (.iload_n 2, 1) := by decide +kernel
theorem dX8_saySlot_18 : decode cX8_saySlot 18 = .ok (.iconst 4, 1) := by decide +kernel
theorem dX8_saySlot_19 : decode cX8_saySlot 19 = .ok (.idiv, 1) := by decide +kernel
theorem dX8_saySlot_20 : decode cX8_saySlot 20 = .ok (.iadd, 1) := by decide +kernel
theorem dX8_saySlot_21 : decode cX8_saySlot 21 = .ok (.iaload, 1) := by decide +kernel
theorem dX8_saySlot_22 : decode cX8_saySlot 22 = .ok (.bipush 24, 2) := by decide +kernel
theorem dX8_saySlot_24 : decode cX8_saySlot 24 = .ok (.bipush 8, 2) := by decide +kernel
theorem dX8_saySlot_26 : decode cX8_saySlot 26 = .ok (.iload_n 2, 1) := by decide +kernel
theorem dX8_saySlot_27 : decode cX8_saySlot 27 = .ok (.iconst 4, 1) := by decide +kernel
theorem dX8_saySlot_28 : decode cX8_saySlot 28 = .ok (.irem, 1) := by decide +kernel
theorem dX8_saySlot_29 : decode cX8_saySlot 29 = .ok (.imul, 1) := by decide +kernel
theorem dX8_saySlot_30 : decode cX8_saySlot 30 = .ok (.isub, 1) := by decide +kernel
theorem dX8_saySlot_31 : decode cX8_saySlot 31 = .ok (.ishr, 1) := by decide +kernel
theorem dX8_saySlot_32 : decode cX8_saySlot 32 = .ok (.invokevirtual 151, 3) := by decide +kernel
theorem dX8_saySlot_35 : decode cX8_saySlot 35 = .ok (.iinc 2 1, 3) := by decide +kernel
theorem dX8_saySlot_38 : decode cX8_saySlot 38 = .ok (.goto (-36), 3) := by decide +kernel
theorem dX8_saySlot_41 : decode cX8_saySlot 41 = .ok (.return_, 1) := by decide +kernel
theorem dX8_turn_0 : decode cX8_turn 0 = .ok (.iload_n 0, 1) := by decide +kernel
theorem dX8_turn_1 : decode cX8_turn 1 = .ok (.iload_n 1, 1) := by decide +kernel
theorem dX8_turn_2 : decode cX8_turn 2 = .ok (.iushr, 1) := by decide +kernel
theorem dX8_turn_3 : decode cX8_turn 3 = .ok (.iload_n 0, 1) := by decide +kernel
theorem dX8_turn_4 : decode cX8_turn 4 = .ok (.bipush 32, 2) := by decide +kernel
theorem dX8_turn_6 : decode cX8_turn 6 = .ok (.iload_n 1, 1) := by decide +kernel
theorem dX8_turn_7 : decode cX8_turn 7 = .ok (.isub, 1) := by decide +kernel
theorem dX8_turn_8 : decode cX8_turn 8 = .ok (.ishl, 1) := by decide +kernel
theorem dX8_turn_9 : decode cX8_turn 9 = .ok (.ior, 1) := by decide +kernel
theorem dX8_turn_10 : decode cX8_turn 10 = .ok (.ireturn, 1) := by decide +kernel
theorem dX8_digest_0 : decode cX8_digest 0 = .ok (.bipush 8, 2) := by decide +kernel
theorem dX8_digest_2 : decode cX8_digest 2 = .ok (.aload_n 0, 1) := by decide +kernel
theorem dX8_digest_3 : decode cX8_digest 3 = .ok (.getfield 148, 3) := by decide +kernel
theorem dX8_digest_6 : decode cX8_digest 6 = .ok (.imul, 1) := by decide +kernel
theorem dX8_digest_7 : decode cX8_digest 7 = .ok (.istore_n 2, 1) := by decide +kernel
theorem dX8_digest_8 : decode cX8_digest 8 = .ok (.aload_n 0, 1) := by decide +kernel
theorem dX8_digest_9 : decode cX8_digest 9 = .ok (.sipush 128, 3) := by decide +kernel
theorem dX8_digest_12 : decode cX8_digest 12 = .ok (.invokevirtual 151, 3) := by decide +kernel
theorem dX8_digest_15 : decode cX8_digest 15 = .ok (.aload_n 0, 1) := by decide +kernel
theorem dX8_digest_16 : decode cX8_digest 16 = .ok (.getfield 148, 3) := by decide +kernel
theorem dX8_digest_19 : decode cX8_digest 19 = .ok (.bipush 64, 2) := by decide +kernel
theorem dX8_digest_21 : decode cX8_digest 21 = .ok (.irem, 1) := by decide +kernel
theorem dX8_digest_22 : decode cX8_digest 22 = .ok (.bipush 56, 2) := by decide +kernel
theorem dX8_digest_24 : decode cX8_digest 24 = .ok (.if_icmp .eq 11, 3) := by decide +kernel
theorem dX8_digest_27 : decode cX8_digest 27 = .ok (.aload_n 0, 1) := by decide +kernel
theorem dX8_digest_28 : decode cX8_digest 28 = .ok (.iconst 0, 1) := by decide +kernel
theorem dX8_digest_29 : decode cX8_digest 29 = .ok (.invokevirtual 151, 3) := by decide +kernel
theorem dX8_digest_32 : decode cX8_digest 32 = .ok (.goto (-17), 3) := by decide +kernel
theorem dX8_digest_35 : decode cX8_digest 35 = .ok (.aload_n 0, 1) := by decide +kernel
theorem dX8_digest_36 : decode cX8_digest 36 = .ok (.iload_n 2, 1) := by decide +kernel
theorem dX8_digest_37 : decode cX8_digest 37 = .ok (.i2l, 1) := by decide +kernel
theorem dX8_digest_38 : decode cX8_digest 38 = .ok (.invokevirtual 154, 3) := by decide +kernel
theorem dX8_digest_41 : decode cX8_digest 41 = .ok (.bipush 8, 2) := by decide +kernel
theorem dX8_digest_43 : decode cX8_digest 43 = .ok (.newarray .int, 2) := by decide +kernel
theorem dX8_digest_45 : decode cX8_digest 45 = .ok (.dup, 1) := by decide +kernel
theorem dX8_digest_46 : decode cX8_digest 46 = .ok (.iconst 0, 1) := by decide +kernel
theorem dX8_digest_47 : decode cX8_digest 47 = .ok (.ldc 158, 2) := by decide +kernel
theorem dX8_digest_49 : decode cX8_digest 49 = .ok (.iastore, 1) := by decide +kernel
theorem dX8_digest_50 : decode cX8_digest 50 = .ok (.dup, 1) := by decide +kernel
theorem dX8_digest_51 : decode cX8_digest 51 = .ok (.iconst 1, 1) := by decide +kernel
theorem dX8_digest_52 : decode cX8_digest 52 = .ok (.ldc 159, 2) := by decide +kernel
theorem dX8_digest_54 : decode cX8_digest 54 = .ok (.iastore, 1) := by decide +kernel
theorem dX8_digest_55 : decode cX8_digest 55 = .ok (.dup, 1) := by decide +kernel
theorem dX8_digest_56 : decode cX8_digest 56 = .ok (.iconst 2, 1) := by decide +kernel
theorem dX8_digest_57 : decode cX8_digest 57 = .ok (.ldc 160, 2) := by decide +kernel
theorem dX8_digest_59 : decode cX8_digest 59 = .ok (.iastore, 1) := by decide +kernel
theorem dX8_digest_60 : decode cX8_digest 60 = .ok (.dup, 1) := by decide +kernel
theorem dX8_digest_61 : decode cX8_digest 61 = .ok (.iconst 3, 1) := by decide +kernel
theorem dX8_digest_62 : decode cX8_digest 62 = .ok (.ldc 161, 2) := by decide +kernel
theorem dX8_digest_64 : decode cX8_digest 64 = .ok (.iastore, 1) := by decide +kernel
theorem dX8_digest_65 : decode cX8_digest 65 = .ok (.dup, 1) := by decide +kernel
theorem dX8_digest_66 : decode cX8_digest 66 = .ok (.iconst 4, 1) := by decide +kernel
theorem dX8_digest_67 : decode cX8_digest 67 = .ok (.ldc 162, 2) := by decide +kernel
theorem dX8_digest_69 : decode cX8_digest 69 = .ok (.iastore, 1) := by decide +kernel
theorem dX8_digest_70 : decode cX8_digest 70 = .ok (.dup, 1) := by decide +kernel
theorem dX8_digest_71 : decode cX8_digest 71 = .ok (.iconst 5, 1) := by decide +kernel
theorem dX8_digest_72 : decode cX8_digest 72 = .ok (.ldc 163, 2) := by decide +kernel
theorem dX8_digest_74 : decode cX8_digest 74 = .ok (.iastore, 1) := by decide +kernel
theorem dX8_digest_75 : decode cX8_digest 75 = .ok (.dup, 1) := by decide +kernel
theorem dX8_digest_76 : decode cX8_digest 76 = .ok (.bipush 6, 2) := by decide +kernel
theorem dX8_digest_78 : decode cX8_digest 78 = .ok (.ldc 164, 2) := by decide +kernel
theorem dX8_digest_80 : decode cX8_digest 80 = .ok (.iastore, 1) := by decide +kernel
theorem dX8_digest_81 : decode cX8_digest 81 = .ok (.dup, 1) := by decide +kernel
theorem dX8_digest_82 : decode cX8_digest 82 = .ok (.bipush 7, 2) := by decide +kernel
theorem dX8_digest_84 : decode cX8_digest 84 = .ok (.ldc 165, 2) := by decide +kernel
theorem dX8_digest_86 : decode cX8_digest 86 = .ok (.iastore, 1) := by decide +kernel
theorem dX8_digest_87 : decode cX8_digest 87 = .ok (.astore_n 3, 1) := by decide +kernel
theorem dX8_digest_88 : decode cX8_digest 88 = .ok (.iconst 0, 1) := by decide +kernel
theorem dX8_digest_89 : decode cX8_digest 89 = .ok (.istore 4, 2) := by decide +kernel
theorem dX8_digest_91 : decode cX8_digest 91 = .ok (.iload 4, 2) := by decide +kernel
theorem dX8_digest_93 : decode cX8_digest 93 = .ok (.bipush 8, 2) := by decide +kernel
theorem dX8_digest_95 : decode cX8_digest 95 = .ok (.if_icmp .ge 20, 3) := by decide +kernel
theorem dX8_digest_98 : decode cX8_digest 98 = .ok (.aload_n 0, 1) := by decide +kernel
theorem dX8_digest_99 : decode cX8_digest 99 = .ok (.getfield 55, 3) := by decide +kernel
theorem dX8_digest_102 : decode cX8_digest 102 = .ok (.iload 4, 2) := by decide +kernel
theorem dX8_digest_104 : decode cX8_digest 104 = .ok (.aload_n 3, 1) := by decide +kernel
theorem dX8_digest_105 : decode cX8_digest 105 = .ok (.iload 4, 2) := by decide +kernel
theorem dX8_digest_107 : decode cX8_digest 107 = .ok (.iaload, 1) := by decide +kernel
theorem dX8_digest_108 : decode cX8_digest 108 = .ok (.iastore, 1) := by decide +kernel
theorem dX8_digest_109 : decode cX8_digest 109 = .ok (.iinc 4 1, 3) := by decide +kernel
theorem dX8_digest_112 : decode cX8_digest 112 = .ok (.goto (-21), 3) := by decide +kernel
theorem dX8_digest_115 : decode cX8_digest 115 = .ok (.iconst 0, 1) := by decide +kernel
theorem dX8_digest_116 : decode cX8_digest 116 = .ok (.istore 4, 2) := by decide +kernel
theorem dX8_digest_118 : decode cX8_digest 118 = .ok (.iload 4, 2) := by decide +kernel
theorem dX8_digest_120 : decode cX8_digest 120 = .ok (.aload_n 0, 1) := by decide +kernel
theorem dX8_digest_121 : decode cX8_digest 121 = .ok (.getfield 148, 3) := by decide +kernel
theorem dX8_digest_124 : decode cX8_digest 124 = .ok (.if_icmp .ge 15, 3) := by decide +kernel
theorem dX8_digest_127 : decode cX8_digest 127 = .ok (.aload_n 0, 1) := by decide +kernel
theorem dX8_digest_128 : decode cX8_digest 128 = .ok (.iload 4, 2) := by decide +kernel
theorem dX8_digest_130 : decode cX8_digest 130 = .ok (.invokevirtual 166, 3) := by decide +kernel
theorem dX8_digest_133 : decode cX8_digest 133 = .ok (.iinc 4 64, 3) := by decide +kernel
theorem dX8_digest_136 : decode cX8_digest 136 = .ok (.goto (-18), 3) := by decide +kernel
theorem dX8_digest_139 : decode cX8_digest 139 = .ok (.iconst 0, 1) := by decide +kernel
theorem dX8_digest_140 : decode cX8_digest 140 = .ok (.istore 4, 2) := by decide +kernel
theorem dX8_digest_142 : decode cX8_digest 142 = .ok (.iload 4, 2) := by decide +kernel
theorem dX8_digest_144 : decode cX8_digest 144 = .ok (.bipush 8, 2) := by decide +kernel
theorem dX8_digest_146 : decode cX8_digest 146 = .ok (.if_icmp .ge 28, 3) := by decide +kernel
theorem dX8_digest_149 : decode cX8_digest 149 = .ok (.aload_n 0, 1) := by decide +kernel
theorem dX8_digest_150 : decode cX8_digest 150 = .ok (.getfield 128, 3) := by decide +kernel
theorem dX8_digest_153 : decode cX8_digest 153 = .ok (.bipush 8, 2) := by decide +kernel
theorem dX8_digest_155 : decode cX8_digest 155 = .ok (.iload_n 1, 1) := by decide +kernel
theorem dX8_digest_156 : decode cX8_digest 156 = .ok (.imul, 1) := by decide +kernel
theorem dX8_digest_157 : decode cX8_digest 157 = .ok (.iload 4, 2) := by decide +kernel
theorem dX8_digest_159 : decode cX8_digest 159 = .ok (.iadd, 1) := by decide +kernel
theorem dX8_digest_160 : decode cX8_digest 160 = .ok (.aload_n 0, 1) := by decide +kernel
theorem dX8_digest_161 : decode cX8_digest 161 = .ok (.getfield 55, 3) := by decide +kernel
theorem dX8_digest_164 : decode cX8_digest 164 = .ok (.iload 4, 2) := by decide +kernel
theorem dX8_digest_166 : decode cX8_digest 166 = .ok (.iaload, 1) := by decide +kernel
theorem dX8_digest_167 : decode cX8_digest 167 = .ok (.iastore, 1) := by decide +kernel
theorem dX8_digest_168 : decode cX8_digest 168 = .ok (.iinc 4 1, 3) := by decide +kernel
theorem dX8_digest_171 : decode cX8_digest 171 = .ok (.goto (-29), 3) := by decide +kernel
theorem dX8_digest_174 : decode cX8_digest 174 = .ok (.aload_n 0, 1) := by decide +kernel
theorem dX8_digest_175 : decode cX8_digest 175 = .ok (.iconst 0, 1) := by decide +kernel
theorem dX8_digest_176 : decode cX8_digest 176 = .ok (.putfield 148, 3) := by decide +kernel
theorem dX8_digest_179 : decode cX8_digest 179 = .ok (.return_, 1) := by decide +kernel
theorem dX8_block_0 : decode cX8_block 0 = .ok (.iconst 0, 1) := by decide +kernel
theorem dX8_block_1 : decode cX8_block 1 = .ok (.istore_n 2, 1) := by decide +kernel
theorem dX8_block_2 : decode cX8_block 2 = .ok (.iload_n 2, 1) := by decide +kernel
theorem dX8_block_3 : decode cX8_block 3 = .ok (.bipush 16, 2) := by decide +kernel
theorem dX8_block_5 : decode cX8_block 5 = .ok (.if_icmp .ge 73, 3) := by decide +kernel
theorem dX8_block_8 : decode cX8_block 8 = .ok (.aload_n 0, 1) := by decide +kernel
theorem dX8_block_9 : decode cX8_block 9 = .ok (.getfield 58, 3) := by decide +kernel
theorem dX8_block_12 : decode cX8_block 12 = .ok (.iload_n 2, 1) := by decide +kernel
theorem dX8_block_13 : decode cX8_block 13 = .ok (.aload_n 0, 1) := by decide +kernel
theorem dX8_block_14 : decode cX8_block 14 = .ok (.getfield 52, 3) := by decide +kernel
theorem dX8_block_17 : decode cX8_block 17 = .ok (.iload_n 1, 1) := by decide +kernel
theorem dX8_block_18 : decode cX8_block 18 = .ok (.iconst 4, 1) := by decide +kernel
theorem dX8_block_19 : decode cX8_block 19 = .ok (.iload_n 2, 1) := by decide +kernel
theorem dX8_block_20 : decode cX8_block 20 = .ok (.imul, 1) := by decide +kernel
theorem dX8_block_21 : decode cX8_block 21 = .ok (.iadd, 1) := by decide +kernel
theorem dX8_block_22 : decode cX8_block 22 = .ok (.iaload, 1) := by decide +kernel
theorem dX8_block_23 : decode cX8_block 23 = .ok (.bipush 24, 2) := by decide +kernel
theorem dX8_block_25 : decode cX8_block 25 = .ok (.ishl, 1) := by decide +kernel
theorem dX8_block_26 : decode cX8_block 26 = .ok (.aload_n 0, 1) := by decide +kernel
theorem dX8_block_27 : decode cX8_block 27 = .ok (.getfield 52, 3) := by decide +kernel
theorem dX8_block_30 : decode cX8_block 30 = .ok (.iload_n 1, 1) := by decide +kernel
theorem dX8_block_31 : decode cX8_block 31 = .ok (.iconst 4, 1) := by decide +kernel
theorem dX8_block_32 : decode cX8_block 32 = .ok (.iload_n 2, 1) := by decide +kernel
theorem dX8_block_33 : decode cX8_block 33 = .ok (.imul, 1) := by decide +kernel
theorem dX8_block_34 : decode cX8_block 34 = .ok (.iadd, 1) := by decide +kernel
theorem dX8_block_35 : decode cX8_block 35 = .ok (.iconst 1, 1) := by decide +kernel
theorem dX8_block_36 : decode cX8_block 36 = .ok (.iadd, 1) := by decide +kernel
theorem dX8_block_37 : decode cX8_block 37 = .ok (.iaload, 1) := by decide +kernel
theorem dX8_block_38 : decode cX8_block 38 = .ok (.bipush 16, 2) := by decide +kernel
theorem dX8_block_40 : decode cX8_block 40 = .ok (.ishl, 1) := by decide +kernel
theorem dX8_block_41 : decode cX8_block 41 = .ok (.ior, 1) := by decide +kernel
theorem dX8_block_42 : decode cX8_block 42 = .ok (.aload_n 0, 1) := by decide +kernel
theorem dX8_block_43 : decode cX8_block 43 = .ok (.getfield 52, 3) := by decide +kernel
theorem dX8_block_46 : decode cX8_block 46 = .ok (.iload_n 1, 1) := by decide +kernel
theorem dX8_block_47 : decode cX8_block 47 = .ok (.iconst 4, 1) := by decide +kernel
theorem dX8_block_48 : decode cX8_block 48 = .ok (.iload_n 2, 1) := by decide +kernel
theorem dX8_block_49 : decode cX8_block 49 = .ok (.imul, 1) := by decide +kernel
theorem dX8_block_50 : decode cX8_block 50 = .ok (.iadd, 1) := by decide +kernel
theorem dX8_block_51 : decode cX8_block 51 = .ok (.iconst 2, 1) := by decide +kernel
theorem dX8_block_52 : decode cX8_block 52 = .ok (.iadd, 1) := by decide +kernel
theorem dX8_block_53 : decode cX8_block 53 = .ok (.iaload, 1) := by decide +kernel
theorem dX8_block_54 : decode cX8_block 54 = .ok (.bipush 8, 2) := by decide +kernel
theorem dX8_block_56 : decode cX8_block 56 = .ok (.ishl, 1) := by decide +kernel
theorem dX8_block_57 : decode cX8_block 57 = .ok (.ior, 1) := by decide +kernel
theorem dX8_block_58 : decode cX8_block 58 = .ok (.aload_n 0, 1) := by decide +kernel
theorem dX8_block_59 : decode cX8_block 59 = .ok (.getfield 52, 3) := by decide +kernel
theorem dX8_block_62 : decode cX8_block 62 = .ok (.iload_n 1, 1) := by decide +kernel
theorem dX8_block_63 : decode cX8_block 63 = .ok (.iconst 4, 1) := by decide +kernel
theorem dX8_block_64 : decode cX8_block 64 = .ok (.iload_n 2, 1) := by decide +kernel
theorem dX8_block_65 : decode cX8_block 65 = .ok (.imul, 1) := by decide +kernel
theorem dX8_block_66 : decode cX8_block 66 = .ok (.iadd, 1) := by decide +kernel
theorem dX8_block_67 : decode cX8_block 67 = .ok (.iconst 3, 1) := by decide +kernel
theorem dX8_block_68 : decode cX8_block 68 = .ok (.iadd, 1) := by decide +kernel
theorem dX8_block_69 : decode cX8_block 69 = .ok (.iaload, 1) := by decide +kernel
theorem dX8_block_70 : decode cX8_block 70 = .ok (.ior, 1) := by decide +kernel
theorem dX8_block_71 : decode cX8_block 71 = .ok (.iastore, 1) := by decide +kernel
theorem dX8_block_72 : decode cX8_block 72 = .ok (.iinc 2 1, 3) := by decide +kernel
theorem dX8_block_75 : decode cX8_block 75 = .ok (.goto (-73), 3) := by decide +kernel
theorem dX8_block_78 : decode cX8_block 78 = .ok (.bipush 16, 2) := by decide +kernel
theorem dX8_block_80 : decode cX8_block 80 = .ok (.istore_n 2, 1) := by decide +kernel
theorem dX8_block_81 : decode cX8_block 81 = .ok (.iload_n 2, 1) := by decide +kernel
theorem dX8_block_82 : decode cX8_block 82 = .ok (.bipush 64, 2) := by decide +kernel
theorem dX8_block_84 : decode cX8_block 84 = .ok (.if_icmp .ge 94, 3) := by decide +kernel
theorem dX8_block_87 : decode cX8_block 87 = .ok (.aload_n 0, 1) := by decide +kernel
theorem dX8_block_88 : decode cX8_block 88 = .ok (.getfield 58, 3) := by decide +kernel
theorem dX8_block_91 : decode cX8_block 91 = .ok (.iload_n 2, 1) := by decide +kernel
theorem dX8_block_92 : decode cX8_block 92 = .ok (.bipush 15, 2) := by decide +kernel
theorem dX8_block_94 : decode cX8_block 94 = .ok (.isub, 1) := by decide +kernel
theorem dX8_block_95 : decode cX8_block 95 = .ok (.iaload, 1) := by decide +kernel
theorem dX8_block_96 : decode cX8_block 96 = .ok (.istore_n 3, 1) := by decide +kernel
theorem dX8_block_97 : decode cX8_block 97 = .ok (.aload_n 0, 1) := by decide +kernel
theorem dX8_block_98 : decode cX8_block 98 = .ok (.getfield 58, 3) := by decide +kernel
theorem dX8_block_101 : decode cX8_block 101 = .ok (.iload_n 2, 1) := by decide +kernel
theorem dX8_block_102 : decode cX8_block 102 = .ok (.iconst 2, 1) := by decide +kernel
theorem dX8_block_103 : decode cX8_block 103 = .ok (.isub, 1) := by decide +kernel
theorem dX8_block_104 : decode cX8_block 104 = .ok (.iaload, 1) := by decide +kernel
theorem dX8_block_105 : decode cX8_block 105 = .ok (.istore 4, 2) := by decide +kernel
theorem dX8_block_107 : decode cX8_block 107 = .ok (.aload_n 0, 1) := by decide +kernel
theorem dX8_block_108 : decode cX8_block 108 = .ok (.getfield 58, 3) := by decide +kernel
theorem dX8_block_111 : decode cX8_block 111 = .ok (.iload_n 2, 1) := by decide +kernel
theorem dX8_block_112 : decode cX8_block 112 = .ok (.aload_n 0, 1) := by decide +kernel
theorem dX8_block_113 : decode cX8_block 113 = .ok (.getfield 58, 3) := by decide +kernel
theorem dX8_block_116 : decode cX8_block 116 = .ok (.iload_n 2, 1) := by decide +kernel
theorem dX8_block_117 : decode cX8_block 117 = .ok (.bipush 16, 2) := by decide +kernel
theorem dX8_block_119 : decode cX8_block 119 = .ok (.isub, 1) := by decide +kernel
theorem dX8_block_120 : decode cX8_block 120 = .ok (.iaload, 1) := by decide +kernel
theorem dX8_block_121 : decode cX8_block 121 = .ok (.iload_n 3, 1) := by decide +kernel
theorem dX8_block_122 : decode cX8_block 122 = .ok (.bipush 7, 2) := by decide +kernel
theorem dX8_block_124 : decode cX8_block 124 = .ok (.invokestatic 169, 3) := by decide +kernel
theorem dX8_block_127 : decode cX8_block 127 = .ok (.iload_n 3, 1) := by decide +kernel
theorem dX8_block_128 : decode cX8_block 128 = .ok (.bipush 18, 2) := by decide +kernel
theorem dX8_block_130 : decode cX8_block 130 = .ok (.invokestatic 169, 3) := by decide +kernel
theorem dX8_block_133 : decode cX8_block 133 = .ok (.ixor, 1) := by decide +kernel
theorem dX8_block_134 : decode cX8_block 134 = .ok (.iload_n 3, 1) := by decide +kernel
theorem dX8_block_135 : decode cX8_block 135 = .ok (.iconst 3, 1) := by decide +kernel
theorem dX8_block_136 : decode cX8_block 136 = .ok (.iushr, 1) := by decide +kernel
theorem dX8_block_137 : decode cX8_block 137 = .ok (.ixor, 1) := by decide +kernel
theorem dX8_block_138 : decode cX8_block 138 = .ok (.iadd, 1) := by decide +kernel
theorem dX8_block_139 : decode cX8_block 139 = .ok (.aload_n 0, 1) := by decide +kernel
theorem dX8_block_140 : decode cX8_block 140 = .ok (.getfield 58, 3) := by decide +kernel
theorem dX8_block_143 : decode cX8_block 143 = .ok (.iload_n 2, 1) := by decide +kernel
theorem dX8_block_144 : decode cX8_block 144 = .ok (.bipush 7, 2) := by decide +kernel
theorem dX8_block_146 : decode cX8_block 146 = .ok (.isub, 1) := by decide +kernel
theorem dX8_block_147 : decode cX8_block 147 = .ok (.iaload, 1) := by decide +kernel
theorem dX8_block_148 : decode cX8_block 148 = .ok (.iadd, 1) := by decide +kernel
theorem dX8_block_149 : decode cX8_block 149 = .ok (.iload 4, 2) := by decide +kernel
theorem dX8_block_151 : decode cX8_block 151 = .ok (.bipush 17, 2) := by decide +kernel
theorem dX8_block_153 : decode cX8_block 153 = .ok (.invokestatic 169, 3) := by decide +kernel
theorem dX8_block_156 : decode cX8_block 156 = .ok (.iload 4, 2) := by decide +kernel
theorem dX8_block_158 : decode cX8_block 158 = .ok (.bipush 19, 2) := by decide +kernel
theorem dX8_block_160 : decode cX8_block 160 = .ok (.invokestatic 169, 3) := by decide +kernel
theorem dX8_block_163 : decode cX8_block 163 = .ok (.ixor, 1) := by decide +kernel
theorem dX8_block_164 : decode cX8_block 164 = .ok (.iload 4, 2) := by decide +kernel
theorem dX8_block_166 : decode cX8_block 166 = .ok (.bipush 10, 2) := by decide +kernel
theorem dX8_block_168 : decode cX8_block 168 = .ok (.iushr, 1) := by decide +kernel
theorem dX8_block_169 : decode cX8_block 169 = .ok (.ixor, 1) := by decide +kernel
theorem dX8_block_170 : decode cX8_block 170 = .ok (.iadd, 1) := by decide +kernel
theorem dX8_block_171 : decode cX8_block 171 = .ok (.iastore, 1) := by decide +kernel
theorem dX8_block_172 : decode cX8_block 172 = .ok (.iinc 2 1, 3) := by decide +kernel
theorem dX8_block_175 : decode cX8_block 175 = .ok (.goto (-94), 3) := by decide +kernel
theorem dX8_block_178 : decode cX8_block 178 = .ok (.aload_n 0, 1) := by decide +kernel
theorem dX8_block_179 : decode cX8_block 179 = .ok (.getfield 55, 3) := by decide +kernel
theorem dX8_block_182 : decode cX8_block 182 = .ok (.iconst 0, 1) := by decide +kernel
theorem dX8_block_183 : decode cX8_block 183 = .ok (.iaload, 1) := by decide +kernel
theorem dX8_block_184 : decode cX8_block 184 = .ok (.istore_n 2, 1) := by decide +kernel
theorem dX8_block_185 : decode cX8_block 185 = .ok (.aload_n 0, 1) := by decide +kernel
theorem dX8_block_186 : decode cX8_block 186 = .ok (.getfield 55, 3) := by decide +kernel
theorem dX8_block_189 : decode cX8_block 189 = .ok (.iconst 1, 1) := by decide +kernel
theorem dX8_block_190 : decode cX8_block 190 = .ok (.iaload, 1) := by decide +kernel
theorem dX8_block_191 : decode cX8_block 191 = .ok (.istore_n 3, 1) := by decide +kernel
theorem dX8_block_192 : decode cX8_block 192 = .ok (.aload_n 0, 1) := by decide +kernel
theorem dX8_block_193 : decode cX8_block 193 = .ok (.getfield 55, 3) := by decide +kernel
theorem dX8_block_196 : decode cX8_block 196 = .ok (.iconst 2, 1) := by decide +kernel
theorem dX8_block_197 : decode cX8_block 197 = .ok (.iaload, 1) := by decide +kernel
theorem dX8_block_198 : decode cX8_block 198 = .ok (.istore 4, 2) := by decide +kernel
theorem dX8_block_200 : decode cX8_block 200 = .ok (.aload_n 0, 1) := by decide +kernel
theorem dX8_block_201 : decode cX8_block 201 = .ok (.getfield 55, 3) := by decide +kernel
theorem dX8_block_204 : decode cX8_block 204 = .ok (.iconst 3, 1) := by decide +kernel
theorem dX8_block_205 : decode cX8_block 205 = .ok (.iaload, 1) := by decide +kernel
theorem dX8_block_206 : decode cX8_block 206 = .ok (.istore 5, 2) := by decide +kernel
theorem dX8_block_208 : decode cX8_block 208 = .ok (.aload_n 0, 1) := by decide +kernel
theorem dX8_block_209 : decode cX8_block 209 = .ok (.getfield 55, 3) := by decide +kernel
theorem dX8_block_212 : decode cX8_block 212 = .ok (.iconst 4, 1) := by decide +kernel
theorem dX8_block_213 : decode cX8_block 213 = .ok (.iaload, 1) := by decide +kernel
theorem dX8_block_214 : decode cX8_block 214 = .ok (.istore 6, 2) := by decide +kernel
theorem dX8_block_216 : decode cX8_block 216 = .ok (.aload_n 0, 1) := by decide +kernel
theorem dX8_block_217 : decode cX8_block 217 = .ok (.getfield 55, 3) := by decide +kernel
theorem dX8_block_220 : decode cX8_block 220 = .ok (.iconst 5, 1) := by decide +kernel
theorem dX8_block_221 : decode cX8_block 221 = .ok (.iaload, 1) := by decide +kernel
theorem dX8_block_222 : decode cX8_block 222 = .ok (.istore 7, 2) := by decide +kernel
theorem dX8_block_224 : decode cX8_block 224 = .ok (.aload_n 0, 1) := by decide +kernel
theorem dX8_block_225 : decode cX8_block 225 = .ok (.getfield 55, 3) := by decide +kernel
theorem dX8_block_228 : decode cX8_block 228 = .ok (.bipush 6, 2) := by decide +kernel
theorem dX8_block_230 : decode cX8_block 230 = .ok (.iaload, 1) := by decide +kernel
theorem dX8_block_231 : decode cX8_block 231 = .ok (.istore 8, 2) := by decide +kernel
theorem dX8_block_233 : decode cX8_block 233 = .ok (.aload_n 0, 1) := by decide +kernel
theorem dX8_block_234 : decode cX8_block 234 = .ok (.getfield 55, 3) := by decide +kernel
theorem dX8_block_237 : decode cX8_block 237 = .ok (.bipush 7, 2) := by decide +kernel
theorem dX8_block_239 : decode cX8_block 239 = .ok (.iaload, 1) := by decide +kernel
theorem dX8_block_240 : decode cX8_block 240 = .ok (.istore 9, 2) := by decide +kernel
theorem dX8_block_242 : decode cX8_block 242 = .ok (.iconst 0, 1) := by decide +kernel
theorem dX8_block_243 : decode cX8_block 243 = .ok (.istore 10, 2) := by decide +kernel
theorem dX8_block_245 : decode cX8_block 245 = .ok (.iload 10, 2) := by decide +kernel
theorem dX8_block_247 : decode cX8_block 247 = .ok (.bipush 64, 2) := by decide +kernel
theorem dX8_block_249 : decode cX8_block 249 = .ok (.if_icmp .ge 136, 3) := by decide +kernel
theorem dX8_block_252 : decode cX8_block 252 = .ok (.iload 9, 2) := by decide +kernel
theorem dX8_block_254 : decode cX8_block 254 = .ok (.iload 6, 2) := by decide +kernel
theorem dX8_block_256 : decode cX8_block 256 = .ok (.bipush 6, 2) := by decide +kernel
theorem dX8_block_258 : decode cX8_block 258 = .ok (.invokestatic 169, 3) := by decide +kernel
theorem dX8_block_261 : decode cX8_block 261 = .ok (.iload 6, 2) := by decide +kernel
theorem dX8_block_263 : decode cX8_block 263 = .ok (.bipush 11, 2) := by decide +kernel
theorem dX8_block_265 : decode cX8_block 265 = .ok (.invokestatic 169, 3) := by decide +kernel
theorem dX8_block_268 : decode cX8_block 268 = .ok (.ixor, 1) := by decide +kernel
theorem dX8_block_269 : decode cX8_block 269 = .ok (.iload 6, 2) := by decide +kernel
theorem dX8_block_271 : decode cX8_block 271 = .ok (.bipush 25, 2) := by decide +kernel
theorem dX8_block_273 : decode cX8_block 273 = .ok (.invokestatic 169, 3) := by decide +kernel
theorem dX8_block_276 : decode cX8_block 276 = .ok (.ixor, 1) := by decide +kernel
theorem dX8_block_277 : decode cX8_block 277 = .ok (.iadd, 1) := by decide +kernel
theorem dX8_block_278 : decode cX8_block 278 = .ok (.iload 6, 2) := by decide +kernel
theorem dX8_block_280 : decode cX8_block 280 = .ok (.iload 7, 2) := by decide +kernel
theorem dX8_block_282 : decode cX8_block 282 = .ok (.iand, 1) := by decide +kernel
theorem dX8_block_283 : decode cX8_block 283 = .ok (.iload 6, 2) := by decide +kernel
theorem dX8_block_285 : decode cX8_block 285 = .ok (.iconst (-1), 1) := by decide +kernel
theorem dX8_block_286 : decode cX8_block 286 = .ok (.ixor, 1) := by decide +kernel
theorem dX8_block_287 : decode cX8_block 287 = .ok (.iload 8, 2) := by decide +kernel
theorem dX8_block_289 : decode cX8_block 289 = .ok (.iand, 1) := by decide +kernel
theorem dX8_block_290 : decode cX8_block 290 = .ok (.ixor, 1) := by decide +kernel
theorem dX8_block_291 : decode cX8_block 291 = .ok (.iadd, 1) := by decide +kernel
theorem dX8_block_292 : decode cX8_block 292 = .ok (.aload_n 0, 1) := by decide +kernel
theorem dX8_block_293 : decode cX8_block 293 = .ok (.getfield 125, 3) := by decide +kernel
theorem dX8_block_296 : decode cX8_block 296 = .ok (.iload 10, 2) := by decide +kernel
theorem dX8_block_298 : decode cX8_block 298 = .ok (.iaload, 1) := by decide +kernel
theorem dX8_block_299 : decode cX8_block 299 = .ok (.iadd, 1) := by decide +kernel
theorem dX8_block_300 : decode cX8_block 300 = .ok (.aload_n 0, 1) := by decide +kernel
theorem dX8_block_301 : decode cX8_block 301 = .ok (.getfield 58, 3) := by decide +kernel
theorem dX8_block_304 : decode cX8_block 304 = .ok (.iload 10, 2) := by decide +kernel
theorem dX8_block_306 : decode cX8_block 306 = .ok (.iaload, 1) := by decide +kernel
theorem dX8_block_307 : decode cX8_block 307 = .ok (.iadd, 1) := by decide +kernel
theorem dX8_block_308 : decode cX8_block 308 = .ok (.istore 11, 2) := by decide +kernel
theorem dX8_block_310 : decode cX8_block 310 = .ok (.iload_n 2, 1) := by decide +kernel
theorem dX8_block_311 : decode cX8_block 311 = .ok (.iconst 2, 1) := by decide +kernel
theorem dX8_block_312 : decode cX8_block 312 = .ok (.invokestatic 169, 3) := by decide +kernel
theorem dX8_block_315 : decode cX8_block 315 = .ok (.iload_n 2, 1) := by decide +kernel
theorem dX8_block_316 : decode cX8_block 316 = .ok (.bipush 13, 2) := by decide +kernel
theorem dX8_block_318 : decode cX8_block 318 = .ok (.invokestatic 169, 3) := by decide +kernel
theorem dX8_block_321 : decode cX8_block 321 = .ok (.ixor, 1) := by decide +kernel
theorem dX8_block_322 : decode cX8_block 322 = .ok (.iload_n 2, 1) := by decide +kernel
theorem dX8_block_323 : decode cX8_block 323 = .ok (.bipush 22, 2) := by decide +kernel
theorem dX8_block_325 : decode cX8_block 325 = .ok (.invokestatic 169, 3) := by decide +kernel
theorem dX8_block_328 : decode cX8_block 328 = .ok (.ixor, 1) := by decide +kernel
theorem dX8_block_329 : decode cX8_block 329 = .ok (.iload_n 2, 1) := by decide +kernel
theorem dX8_block_330 : decode cX8_block 330 = .ok (.iload_n 3, 1) := by decide +kernel
theorem dX8_block_331 : decode cX8_block 331 = .ok (.iand, 1) := by decide +kernel
theorem dX8_block_332 : decode cX8_block 332 = .ok (.iload_n 2, 1) := by decide +kernel
theorem dX8_block_333 : decode cX8_block 333 = .ok (.iload 4, 2) := by decide +kernel
theorem dX8_block_335 : decode cX8_block 335 = .ok (.iand, 1) := by decide +kernel
theorem dX8_block_336 : decode cX8_block 336 = .ok (.ixor, 1) := by decide +kernel
theorem dX8_block_337 : decode cX8_block 337 = .ok (.iload_n 3, 1) := by decide +kernel
theorem dX8_block_338 : decode cX8_block 338 = .ok (.iload 4, 2) := by decide +kernel
theorem dX8_block_340 : decode cX8_block 340 = .ok (.iand, 1) := by decide +kernel
theorem dX8_block_341 : decode cX8_block 341 = .ok (.ixor, 1) := by decide +kernel
theorem dX8_block_342 : decode cX8_block 342 = .ok (.iadd, 1) := by decide +kernel
theorem dX8_block_343 : decode cX8_block 343 = .ok (.istore 12, 2) := by decide +kernel
theorem dX8_block_345 : decode cX8_block 345 = .ok (.iload 8, 2) := by decide +kernel
theorem dX8_block_347 : decode cX8_block 347 = .ok (.istore 9, 2) := by decide +kernel
theorem dX8_block_349 : decode cX8_block 349 = .ok (.iload 7, 2) := by decide +kernel
theorem dX8_block_351 : decode cX8_block 351 = .ok (.istore 8, 2) := by decide +kernel
theorem dX8_block_353 : decode cX8_block 353 = .ok (.iload 6, 2) := by decide +kernel
theorem dX8_block_355 : decode cX8_block 355 = .ok (.istore 7, 2) := by decide +kernel
theorem dX8_block_357 : decode cX8_block 357 = .ok (.iload 5, 2) := by decide +kernel
theorem dX8_block_359 : decode cX8_block 359 = .ok (.iload 11, 2) := by decide +kernel
theorem dX8_block_361 : decode cX8_block 361 = .ok (.iadd, 1) := by decide +kernel
theorem dX8_block_362 : decode cX8_block 362 = .ok (.istore 6, 2) := by decide +kernel
theorem dX8_block_364 : decode cX8_block 364 = .ok (.iload 4, 2) := by decide +kernel
theorem dX8_block_366 : decode cX8_block 366 = .ok (.istore 5, 2) := by decide +kernel
theorem dX8_block_368 : decode cX8_block 368 = .ok (.iload_n 3, 1) := by decide +kernel
theorem dX8_block_369 : decode cX8_block 369 = .ok (.istore 4, 2) := by decide +kernel
theorem dX8_block_371 : decode cX8_block 371 = .ok (.iload_n 2, 1) := by decide +kernel
theorem dX8_block_372 : decode cX8_block 372 = .ok (.istore_n 3, 1) := by decide +kernel
theorem dX8_block_373 : decode cX8_block 373 = .ok (.iload 11, 2) := by decide +kernel
theorem dX8_block_375 : decode cX8_block 375 = .ok (.iload 12, 2) := by decide +kernel
theorem dX8_block_377 : decode cX8_block 377 = .ok (.iadd, 1) := by decide +kernel
theorem dX8_block_378 : decode cX8_block 378 = .ok (.istore_n 2, 1) := by decide +kernel
theorem dX8_block_379 : decode cX8_block 379 = .ok (.iinc 10 1, 3) := by decide +kernel
theorem dX8_block_382 : decode cX8_block 382 = .ok (.goto (-137), 3) := by decide +kernel
theorem dX8_block_385 : decode cX8_block 385 = .ok (.aload_n 0, 1) := by decide +kernel
theorem dX8_block_386 : decode cX8_block 386 = .ok (.getfield 55, 3) := by decide +kernel
theorem dX8_block_389 : decode cX8_block 389 = .ok (.iconst 0, 1) := by decide +kernel
theorem dX8_block_390 : decode cX8_block 390 = .ok (.dup2, 1) := by decide +kernel
theorem dX8_block_391 : decode cX8_block 391 = .ok (.iaload, 1) := by decide +kernel
theorem dX8_block_392 : decode cX8_block 392 = .ok (.iload_n 2, 1) := by decide +kernel
theorem dX8_block_393 : decode cX8_block 393 = .ok (.iadd, 1) := by decide +kernel
theorem dX8_block_394 : decode cX8_block 394 = .ok (.iastore, 1) := by decide +kernel
theorem dX8_block_395 : decode cX8_block 395 = .ok (.aload_n 0, 1) := by decide +kernel
theorem dX8_block_396 : decode cX8_block 396 = .ok (.getfield 55, 3) := by decide +kernel
theorem dX8_block_399 : decode cX8_block 399 = .ok (.iconst 1, 1) := by decide +kernel
theorem dX8_block_400 : decode cX8_block 400 = .ok (.dup2, 1) := by decide +kernel
theorem dX8_block_401 : decode cX8_block 401 = .ok (.iaload, 1) := by decide +kernel
theorem dX8_block_402 : decode cX8_block 402 = .ok (.iload_n 3, 1) := by decide +kernel
theorem dX8_block_403 : decode cX8_block 403 = .ok (.iadd, 1) := by decide +kernel
theorem dX8_block_404 : decode cX8_block 404 = .ok (.iastore, 1) := by decide +kernel
theorem dX8_block_405 : decode cX8_block 405 = .ok (.aload_n 0, 1) := by decide +kernel
theorem dX8_block_406 : decode cX8_block 406 = .ok (.getfield 55, 3) := by decide +kernel
theorem dX8_block_409 : decode cX8_block 409 = .ok (.iconst 2, 1) := by decide +kernel
theorem dX8_block_410 : decode cX8_block 410 = .ok (.dup2, 1) := by decide +kernel
theorem dX8_block_411 : decode cX8_block 411 = .ok (.iaload, 1) := by decide +kernel
theorem dX8_block_412 : decode cX8_block 412 = .ok (.iload 4, 2) := by decide +kernel
theorem dX8_block_414 : decode cX8_block 414 = .ok (.iadd, 1) := by decide +kernel
theorem dX8_block_415 : decode cX8_block 415 = .ok (.iastore, 1) := by decide +kernel
theorem dX8_block_416 : decode cX8_block 416 = .ok (.aload_n 0, 1) := by decide +kernel
theorem dX8_block_417 : decode cX8_block 417 = .ok (.getfield 55, 3) := by decide +kernel
theorem dX8_block_420 : decode cX8_block 420 = .ok (.iconst 3, 1) := by decide +kernel
theorem dX8_block_421 : decode cX8_block 421 = .ok (.dup2, 1) := by decide +kernel
theorem dX8_block_422 : decode cX8_block 422 = .ok (.iaload, 1) := by decide +kernel
theorem dX8_block_423 : decode cX8_block 423 = .ok (.iload 5, 2) := by decide +kernel
theorem dX8_block_425 : decode cX8_block 425 = .ok (.iadd, 1) := by decide +kernel
theorem dX8_block_426 : decode cX8_block 426 = .ok (.iastore, 1) := by decide +kernel
theorem dX8_block_427 : decode cX8_block 427 = .ok (.aload_n 0, 1) := by decide +kernel
theorem dX8_block_428 : decode cX8_block 428 = .ok (.getfield 55, 3) := by decide +kernel
theorem dX8_block_431 : decode cX8_block 431 = .ok (.iconst 4, 1) := by decide +kernel
theorem dX8_block_432 : decode cX8_block 432 = .ok (.dup2, 1) := by decide +kernel
theorem dX8_block_433 : decode cX8_block 433 = .ok (.iaload, 1) := by decide +kernel
theorem dX8_block_434 : decode cX8_block 434 = .ok (.iload 6, 2) := by decide +kernel
theorem dX8_block_436 : decode cX8_block 436 = .ok (.iadd, 1) := by decide +kernel
theorem dX8_block_437 : decode cX8_block 437 = .ok (.iastore, 1) := by decide +kernel
theorem dX8_block_438 : decode cX8_block 438 = .ok (.aload_n 0, 1) := by decide +kernel
theorem dX8_block_439 : decode cX8_block 439 = .ok (.getfield 55, 3) := by decide +kernel
theorem dX8_block_442 : decode cX8_block 442 = .ok (.iconst 5, 1) := by decide +kernel
theorem dX8_block_443 : decode cX8_block 443 = .ok (.dup2, 1) := by decide +kernel
theorem dX8_block_444 : decode cX8_block 444 = .ok (.iaload, 1) := by decide +kernel
theorem dX8_block_445 : decode cX8_block 445 = .ok (.iload 7, 2) := by decide +kernel
theorem dX8_block_447 : decode cX8_block 447 = .ok (.iadd, 1) := by decide +kernel
theorem dX8_block_448 : decode cX8_block 448 = .ok (.iastore, 1) := by decide +kernel
theorem dX8_block_449 : decode cX8_block 449 = .ok (.aload_n 0, 1) := by decide +kernel
theorem dX8_block_450 : decode cX8_block 450 = .ok (.getfield 55, 3) := by decide +kernel
theorem dX8_block_453 : decode cX8_block 453 = .ok (.bipush 6, 2) := by decide +kernel
theorem dX8_block_455 : decode cX8_block 455 = .ok (.dup2, 1) := by decide +kernel
theorem dX8_block_456 : decode cX8_block 456 = .ok (.iaload, 1) := by decide +kernel
theorem dX8_block_457 : decode cX8_block 457 = .ok (.iload 8, 2) := by decide +kernel
theorem dX8_block_459 : decode cX8_block 459 = .ok (.iadd, 1) := by decide +kernel
theorem dX8_block_460 : decode cX8_block 460 = .ok (.iastore, 1) := by decide +kernel
theorem dX8_block_461 : decode cX8_block 461 = .ok (.aload_n 0, 1) := by decide +kernel
theorem dX8_block_462 : decode cX8_block 462 = .ok (.getfield 55, 3) := by decide +kernel
theorem dX8_block_465 : decode cX8_block 465 = .ok (.bipush 7, 2) := by decide +kernel
theorem dX8_block_467 : decode cX8_block 467 = .ok (.dup2, 1) := by decide +kernel
theorem dX8_block_468 : decode cX8_block 468 = .ok (.iaload, 1) := by decide +kernel
theorem dX8_block_469 : decode cX8_block 469 = .ok (.iload 9, 2) := by decide +kernel
theorem dX8_block_471 : decode cX8_block 471 = .ok (.iadd, 1) := by decide +kernel
