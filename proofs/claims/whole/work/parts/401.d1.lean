theorem dlw_0 : decode code 0 = .ok (.new 7, 3) := by decide +kernel
theorem dlw_3 : decode code 3 = .ok (.dup, 1) := by decide +kernel
theorem dlw_4 : decode code 4 = .ok (.invokespecial 9, 3) := by decide +kernel
theorem dlw_7 : decode code 7 = .ok (.astore_n 1, 1) := by decide +kernel
theorem dlw_8 : decode code 8 = .ok (.new 10, 3) := by decide +kernel
theorem dlw_11 : decode code 11 = .ok (.dup, 1) := by decide +kernel
theorem dlw_12 : decode code 12 = .ok (.invokespecial 12, 3) := by decide +kernel
theorem dlw_15 : decode code 15 = .ok (.astore_n 2, 1) := by decide +kernel
theorem dlw_16 : decode code 16 = .ok (.iconst 0, 1) := by decide +kernel
theorem dlw_17 : decode code 17 = .ok (.istore_n 3, 1) := by decide +kernel
theorem dlw_18 : decode code 18 = .ok (.iload_n 3, 1) := by decide +kernel
theorem dlw_19 : decode code 19 = .ok (.aload_n 0, 1) := by decide +kernel
theorem dlw_20 : decode code 20 = .ok (.arraylength, 1) := by decide +kernel
theorem dlw_21 : decode code 21 = .ok (.bipush 6, 2) := by decide +kernel
theorem dlw_23 : decode code 23 = .ok (.isub, 1) := by decide +kernel
theorem dlw_24 : decode code 24 = .ok (.if_icmp .gt 1267, 3) := by decide +kernel
theorem dlw_27 : decode code 27 = .ok (.aload_n 0, 1) := by decide +kernel
theorem dlw_28 : decode code 28 = .ok (.iload_n 3, 1) := by decide +kernel
theorem dlw_29 : decode code 29 = .ok (.iaload, 1) := by decide +kernel
theorem dlw_30 : decode code 30 = .ok (.bipush 63, 2) := by decide +kernel
theorem dlw_32 : decode code 32 = .ok (.iand, 1) := by decide +kernel
theorem dlw_33 : decode code 33 = .ok (.tableswitch 1252 0 37 #[167, 180, 233, 276, 309, 342, 375, 408, 471, 494, 517, 530, 543, 556, 569, 582, 605, 638, 671, 684, 717, 730, 773, 806, 829, 852, 875, 908, 961, 994, 1037, 1060, 1104, 1137, 1170, 1193, 1216, 1239], 167) := by decide +kernel
theorem dlw_200 : decode code 200 = .ok (.aload_n 1, 1) := by decide +kernel
theorem dlw_201 : decode code 201 = .ok (.invokevirtual 13, 3) := by decide +kernel
theorem dlw_204 : decode code 204 = .ok (.aload_n 2, 1) := by decide +kernel
theorem dlw_205 : decode code 205 = .ok (.invokevirtual 17, 3) := by decide +kernel
theorem dlw_208 : decode code 208 = .ok (.if_icmp .eq 1077, 3) := by decide +kernel
theorem dlw_211 : decode code 211 = .ok (.iconst 0, 1) := by decide +kernel
theorem dlw_212 : decode code 212 = .ok (.ireturn, 1) := by decide +kernel
theorem dlw_213 : decode code 213 = .ok (.aload_n 1, 1) := by decide +kernel
theorem dlw_214 : decode code 214 = .ok (.aload_n 0, 1) := by decide +kernel
theorem dlw_215 : decode code 215 = .ok (.iload_n 3, 1) := by decide +kernel
theorem dlw_216 : decode code 216 = .ok (.iconst 1, 1) := by decide +kernel
theorem dlw_217 : decode code 217 = .ok (.iadd, 1) := by decide +kernel
theorem dlw_218 : decode code 218 = .ok (.iaload, 1) := by decide +kernel
theorem dlw_219 : decode code 219 = .ok (.aload_n 0, 1) := by decide +kernel
theorem dlw_220 : decode code 220 = .ok (.iload_n 3, 1) := by decide +kernel
theorem dlw_221 : decode code 221 = .ok (.iconst 2, 1) := by decide +kernel
theorem dlw_222 : decode code 222 = .ok (.iadd, 1) := by decide +kernel
theorem dlw_223 : decode code 223 = .ok (.iaload, 1) := by decide +kernel
theorem dlw_224 : decode code 224 = .ok (.aload_n 0, 1) := by decide +kernel
theorem dlw_225 : decode code 225 = .ok (.iload_n 3, 1) := by decide +kernel
theorem dlw_226 : decode code 226 = .ok (.iconst 3, 1) := by decide +kernel
theorem dlw_227 : decode code 227 = .ok (.iadd, 1) := by decide +kernel
theorem dlw_228 : decode code 228 = .ok (.iaload, 1) := by decide +kernel
theorem dlw_229 : decode code 229 = .ok (.aload_n 0, 1) := by decide +kernel
theorem dlw_230 : decode code 230 = .ok (.iload_n 3, 1) := by decide +kernel
theorem dlw_231 : decode code 231 = .ok (.iconst 4, 1) := by decide +kernel
theorem dlw_232 : decode code 232 = .ok (.iadd, 1) := by decide +kernel
theorem dlw_233 : decode code 233 = .ok (.iaload, 1) := by decide +kernel
theorem dlw_234 : decode code 234 = .ok (.invokevirtual 18, 3) := by decide +kernel
theorem dlw_237 : decode code 237 = .ok (.aload_n 2, 1) := by decide +kernel
theorem dlw_238 : decode code 238 = .ok (.aload_n 0, 1) := by decide +kernel
theorem dlw_239 : decode code 239 = .ok (.iload_n 3, 1) := by decide +kernel
theorem dlw_240 : decode code 240 = .ok (.iconst 1, 1) := by decide +kernel
theorem dlw_241 : decode code 241 = .ok (.iadd, 1) := by decide +kernel
theorem dlw_242 : decode code 242 = .ok (.iaload, 1) := by decide +kernel
theorem dlw_243 : decode code 243 = .ok (.aload_n 0, 1) := by decide +kernel
theorem dlw_244 : decode code 244 = .ok (.iload_n 3, 1) := by decide +kernel
theorem dlw_245 : decode code 245 = .ok (.iconst 2, 1) := by decide +kernel
theorem dlw_246 : decode code 246 = .ok (.iadd, 1) := by decide +kernel
theorem dlw_247 : decode code 247 = .ok (.iaload, 1) := by decide +kernel
theorem dlw_248 : decode code 248 = .ok (.aload_n 0, 1) := by decide +kernel
theorem dlw_249 : decode code 249 = .ok (.iload_n 3, 1) := by decide +kernel
theorem dlw_250 : decode code 250 = .ok (.iconst 3, 1) := by decide +kernel
theorem dlw_251 : decode code 251 = .ok (.iadd, 1) := by decide +kernel
theorem dlw_252 : decode code 252 = .ok (.iaload, 1) := by decide +kernel
theorem dlw_253 : decode code 253 = .ok (.aload_n 0, 1) := by decide +kernel
theorem dlw_254 : decode code 254 = .ok (.iload_n 3, 1) := by decide +kernel
theorem dlw_255 : decode code 255 = .ok (.iconst 4, 1) := by decide +kernel
theorem dlw_256 : decode code 256 = .ok (.iadd, 1) := by decide +kernel
theorem dlw_257 : decode code 257 = .ok (.iaload, 1) := by decide +kernel
theorem dlw_258 : decode code 258 = .ok (.invokevirtual 22, 3) := by decide +kernel
theorem dlw_261 : decode code 261 = .ok (.if_icmp .eq 1024, 3) := by decide +kernel
theorem dlw_264 : decode code 264 = .ok (.iconst 0, 1) := by decide +kernel
theorem dlw_265 : decode code 265 = .ok (.ireturn, 1) := by decide +kernel
theorem dlw_266 : decode code 266 = .ok (.aload_n 1, 1) := by decide +kernel
theorem dlw_267 : decode code 267 = .ok (.aload_n 0, 1) := by decide +kernel
theorem dlw_268 : decode code 268 = .ok (.iload_n 3, 1) := by decide +kernel
theorem dlw_269 : decode code 269 = .ok (.iconst 1, 1) := by decide +kernel
theorem dlw_270 : decode code 270 = .ok (.iadd, 1) := by decide +kernel
theorem dlw_271 : decode code 271 = .ok (.iaload, 1) := by decide +kernel
theorem dlw_272 : decode code 272 = .ok (.aload_n 0, 1) := by decide +kernel
theorem dlw_273 : decode code 273 = .ok (.iload_n 3, 1) := by decide +kernel
theorem dlw_274 : decode code 274 = .ok (.iconst 2, 1) := by decide +kernel
theorem dlw_275 : decode code 275 = .ok (.iadd, 1) := by decide +kernel
theorem dlw_276 : decode code 276 = .ok (.iaload, 1) := by decide +kernel
theorem dlw_277 : decode code 277 = .ok (.aload_n 0, 1) := by decide +kernel
theorem dlw_278 : decode code 278 = .ok (.iload_n 3, 1) := by decide +kernel
theorem dlw_279 : decode code 279 = .ok (.iconst 3, 1) := by decide +kernel
theorem dlw_280 : decode code 280 = .ok (.iadd, 1) := by decide +kernel
theorem dlw_281 : decode code 281 = .ok (.iaload, 1) := by decide +kernel
theorem dlw_282 : decode code 282 = .ok (.invokevirtual 23, 3) := by decide +kernel
theorem dlw_285 : decode code 285 = .ok (.aload_n 2, 1) := by decide +kernel
theorem dlw_286 : decode code 286 = .ok (.aload_n 0, 1) := by decide +kernel
theorem dlw_287 : decode code 287 = .ok (.iload_n 3, 1) := by decide +kernel
theorem dlw_288 : decode code 288 = .ok (.iconst 1, 1) := by decide +kernel
theorem dlw_289 : decode code 289 = .ok (.iadd, 1) := by decide +kernel
theorem dlw_290 : decode code 290 = .ok (.iaload, 1) := by decide +kernel
theorem dlw_291 : decode code 291 = .ok (.aload_n 0, 1) := by decide +kernel
theorem dlw_292 : decode code 292 = .ok (.iload_n 3, 1) := by decide +kernel
theorem dlw_293 : decode code 293 = .ok (.iconst 2, 1) := by decide +kernel
theorem dlw_294 : decode code 294 = .ok (.iadd, 1) := by decide +kernel
theorem dlw_295 : decode code 295 = .ok (.iaload, 1) := by decide +kernel
theorem dlw_296 : decode code 296 = .ok (.aload_n 0, 1) := by decide +kernel
theorem dlw_297 : decode code 297 = .ok (.iload_n 3, 1) := by decide +kernel
theorem dlw_298 : decode code 298 = .ok (.iconst 3, 1) := by decide +kernel
theorem dlw_299 : decode code 299 = .ok (.iadd, 1) := by decide +kernel
theorem dlw_300 : decode code 300 = .ok (.iaload, 1) := by decide +kernel
theorem dlw_301 : decode code 301 = .ok (.invokevirtual 27, 3) := by decide +kernel
theorem dlw_304 : decode code 304 = .ok (.if_icmp .eq 981, 3) := by decide +kernel
theorem dlw_307 : decode code 307 = .ok (.iconst 0, 1) := by decide +kernel
theorem dlw_308 : decode code 308 = .ok (.ireturn, 1) := by decide +kernel
theorem dlw_309 : decode code 309 = .ok (.aload_n 1, 1) := by decide +kernel
theorem dlw_310 : decode code 310 = .ok (.aload_n 0, 1) := by decide +kernel
theorem dlw_311 : decode code 311 = .ok (.iload_n 3, 1) := by decide +kernel
theorem dlw_312 : decode code 312 = .ok (.iconst 1, 1) := by decide +kernel
theorem dlw_313 : decode code 313 = .ok (.iadd, 1) := by decide +kernel
theorem dlw_314 : decode code 314 = .ok (.iaload, 1) := by decide +kernel
theorem dlw_315 : decode code 315 = .ok (.aload_n 0, 1) := by decide +kernel
theorem dlw_316 : decode code 316 = .ok (.iload_n 3, 1) := by decide +kernel
theorem dlw_317 : decode code 317 = .ok (.iconst 2, 1) := by decide +kernel
theorem dlw_318 : decode code 318 = .ok (.iadd, 1) := by decide +kernel
theorem dlw_319 : decode code 319 = .ok (.iaload, 1) := by decide +kernel
theorem dlw_320 : decode code 320 = .ok (.invokevirtual 28, 3) := by decide +kernel
theorem dlw_323 : decode code 323 = .ok (.aload_n 2, 1) := by decide +kernel
theorem dlw_324 : decode code 324 = .ok (.aload_n 0, 1) := by decide +kernel
theorem dlw_325 : decode code 325 = .ok (.iload_n 3, 1) := by decide +kernel
theorem dlw_326 : decode code 326 = .ok (.iconst 1, 1) := by decide +kernel
theorem dlw_327 : decode code 327 = .ok (.iadd, 1) := by decide +kernel
theorem dlw_328 : decode code 328 = .ok (.iaload, 1) := by decide +kernel
theorem dlw_329 : decode code 329 = .ok (.aload_n 0, 1) := by decide +kernel
theorem dlw_330 : decode code 330 = .ok (.iload_n 3, 1) := by decide +kernel
theorem dlw_331 : decode code 331 = .ok (.iconst 2, 1) := by decide +kernel
theorem dlw_332 : decode code 332 = .ok (.iadd, 1) := by decide +kernel
theorem dlw_333 : decode code 333 = .ok (.iaload, 1) := by decide +kernel
theorem dlw_334 : decode code 334 = .ok (.invokevirtual 32, 3) := by decide +kernel
theorem dlw_337 : decode code 337 = .ok (.if_icmp .eq 948, 3) := by decide +kernel
theorem dlw_340 : decode code 340 = .ok (.iconst 0, 1) := by decide +kernel
theorem dlw_341 : decode code 341 = .ok (.ireturn, 1) := by decide +kernel
theorem dlw_342 : decode code 342 = .ok (.aload_n 1, 1) := by decide +kernel
theorem dlw_343 : decode code 343 = .ok (.aload_n 0, 1) := by decide +kernel
theorem dlw_344 : decode code 344 = .ok (.iload_n 3, 1) := by decide +kernel
theorem dlw_345 : decode code 345 = .ok (.iconst 1, 1) := by decide +kernel
theorem dlw_346 : decode code 346 = .ok (.iadd, 1) := by decide +kernel
theorem dlw_347 : decode code 347 = .ok (.iaload, 1) := by decide +kernel
theorem dlw_348 : decode code 348 = .ok (.aload_n 0, 1) := by decide +kernel
theorem dlw_349 : decode code 349 = .ok (.iload_n 3, 1) := by decide +kernel
theorem dlw_350 : decode code 350 = .ok (.iconst 2, 1) := by decide +kernel
theorem dlw_351 : decode code 351 = .ok (.iadd, 1) := by decide +kernel
theorem dlw_352 : decode code 352 = .ok (.iaload, 1) := by decide +kernel
theorem dlw_353 : decode code 353 = .ok (.invokevirtual 33, 3) := by decide +kernel
theorem dlw_356 : decode code 356 = .ok (.aload_n 2, 1) := by decide +kernel
theorem dlw_357 : decode code 357 = .ok (.aload_n 0, 1) := by decide +kernel
theorem dlw_358 : decode code 358 = .ok (.iload_n 3, 1) := by decide +kernel
theorem dlw_359 : decode code 359 = .ok (.iconst 1, 1) := by decide +kernel
theorem dlw_360 : decode code 360 = .ok (.iadd, 1) := by decide +kernel
theorem dlw_361 : decode code 361 = .ok (.iaload, 1) := by decide +kernel
theorem dlw_362 : decode code 362 = .ok (.aload_n 0, 1) := by decide +kernel
theorem dlw_363 : decode code 363 = .ok (.iload_n 3, 1) := by decide +kernel
theorem dlw_364 : decode code 364 = .ok (.iconst 2, 1) := by decide +kernel
theorem dlw_365 : decode code 365 = .ok (.iadd, 1) := by decide +kernel
theorem dlw_366 : decode code 366 = .ok (.iaload, 1) := by decide +kernel
theorem dlw_367 : decode code 367 = .ok (.invokevirtual 36, 3) := by decide +kernel
theorem dlw_370 : decode code 370 = .ok (.if_icmp .eq 915, 3) := by decide +kernel
theorem dlw_373 : decode code 373 = .ok (.iconst 0, 1) := by decide +kernel
theorem dlw_374 : decode code 374 = .ok (.ireturn, 1) := by decide +kernel
theorem dlw_375 : decode code 375 = .ok (.aload_n 1, 1) := by decide +kernel
theorem dlw_376 : decode code 376 = .ok (.aload_n 0, 1) := by decide +kernel
theorem dlw_377 : decode code 377 = .ok (.iload_n 3, 1) := by decide +kernel
theorem dlw_378 : decode code 378 = .ok (.iconst 1, 1) := by decide +kernel
theorem dlw_379 : decode code 379 = .ok (.iadd, 1) := by decide +kernel
theorem dlw_380 : decode code 380 = .ok (.iaload, 1) := by decide +kernel
theorem dlw_381 : decode code 381 = .ok (.aload_n 0, 1) := by decide +kernel
theorem dlw_382 : decode code 382 = .ok (.iload_n 3, 1) := by decide +kernel
theorem dlw_383 : decode code 383 = .ok (.iconst 2, 1) := by decide +kernel
theorem dlw_384 : decode code 384 = .ok (.iadd, 1) := by decide +kernel
theorem dlw_385 : decode code 385 = .ok (.iaload, 1) := by decide +kernel
theorem dlw_386 : decode code 386 = .ok (.invokevirtual 37, 3) := by decide +kernel
theorem dlw_389 : decode code 389 = .ok (.aload_n 2, 1) := by decide +kernel
theorem dlw_390 : decode code 390 = .ok (.aload_n 0, 1) := by decide +kernel
theorem dlw_391 : decode code 391 = .ok (.iload_n 3, 1) := by decide +kernel
theorem dlw_392 : decode code 392 = .ok (.iconst 1, 1) := by decide +kernel
theorem dlw_393 : decode code 393 = .ok (.iadd, 1) := by decide +kernel
theorem dlw_394 : decode code 394 = .ok (.iaload, 1) := by decide +kernel
theorem dlw_395 : decode code 395 = .ok (.aload_n 0, 1) := by decide +kernel
theorem dlw_396 : decode code 396 = .ok (.iload_n 3, 1) := by decide +kernel
theorem dlw_397 : decode code 397 = .ok (.iconst 2, 1) := by decide +kernel
theorem dlw_398 : decode code 398 = .ok (.iadd, 1) := by decide +kernel
theorem dlw_399 : decode code 399 = .ok (.iaload, 1) := by decide +kernel
theorem dlw_400 : decode code 400 = .ok (.invokevirtual 40, 3) := by decide +kernel
theorem dlw_403 : decode code 403 = .ok (.if_icmp .eq 882, 3) := by decide +kernel
theorem dlw_406 : decode code 406 = .ok (.iconst 0, 1) := by decide +kernel
theorem dlw_407 : decode code 407 = .ok (.ireturn, 1) := by decide +kernel
theorem dlw_408 : decode code 408 = .ok (.aload_n 1, 1) := by decide +kernel
theorem dlw_409 : decode code 409 = .ok (.aload_n 0, 1) := by decide +kernel
theorem dlw_410 : decode code 410 = .ok (.iload_n 3, 1) := by decide +kernel
theorem dlw_411 : decode code 411 = .ok (.iconst 1, 1) := by decide +kernel
theorem dlw_412 : decode code 412 = .ok (.iadd, 1) := by decide +kernel
theorem dlw_413 : decode code 413 = .ok (.iaload, 1) := by decide +kernel
theorem dlw_414 : decode code 414 = .ok (.aload_n 0, 1) := by decide +kernel
theorem dlw_415 : decode code 415 = .ok (.iload_n 3, 1) := by decide +kernel
theorem dlw_416 : decode code 416 = .ok (.iconst 2, 1) := by decide +kernel
theorem dlw_417 : decode code 417 = .ok (.iadd, 1) := by decide +kernel
theorem dlw_418 : decode code 418 = .ok (.iaload, 1) := by decide +kernel
theorem dlw_419 : decode code 419 = .ok (.invokevirtual 41, 3) := by decide +kernel
theorem dlw_422 : decode code 422 = .ok (.aload_n 2, 1) := by decide +kernel
theorem dlw_423 : decode code 423 = .ok (.aload_n 0, 1) := by decide +kernel
theorem dlw_424 : decode code 424 = .ok (.iload_n 3, 1) := by decide +kernel
theorem dlw_425 : decode code 425 = .ok (.iconst 1, 1) := by decide +kernel
theorem dlw_426 : decode code 426 = .ok (.iadd, 1) := by decide +kernel
theorem dlw_427 : decode code 427 = .ok (.iaload, 1) := by decide +kernel
theorem dlw_428 : decode code 428 = .ok (.aload_n 0, 1) := by decide +kernel
theorem dlw_429 : decode code 429 = .ok (.iload_n 3, 1) := by decide +kernel
theorem dlw_430 : decode code 430 = .ok (.iconst 2, 1) := by decide +kernel
theorem dlw_431 : decode code 431 = .ok (.iadd, 1) := by decide +kernel
theorem dlw_432 : decode code 432 = .ok (.iaload, 1) := by decide +kernel
theorem dlw_433 : decode code 433 = .ok (.invokevirtual 44, 3) := by decide +kernel
theorem dlw_436 : decode code 436 = .ok (.if_icmp .eq 849, 3) := by decide +kernel
theorem dlw_439 : decode code 439 = .ok (.iconst 0, 1) := by decide +kernel
theorem dlw_440 : decode code 440 = .ok (.ireturn, 1) := by decide +kernel
theorem dlw_441 : decode code 441 = .ok (.aload_n 1, 1) := by decide +kernel
theorem dlw_442 : decode code 442 = .ok (.aload_n 0, 1) := by decide +kernel
theorem dlw_443 : decode code 443 = .ok (.iload_n 3, 1) := by decide +kernel
theorem dlw_444 : decode code 444 = .ok (.iconst 1, 1) := by decide +kernel
theorem dlw_445 : decode code 445 = .ok (.iadd, 1) := by decide +kernel
theorem dlw_446 : decode code 446 = .ok (.iaload, 1) := by decide +kernel
theorem dlw_447 : decode code 447 = .ok (.aload_n 0, 1) := by decide +kernel
theorem dlw_448 : decode code 448 = .ok (.iload_n 3, 1) := by decide +kernel
theorem dlw_449 : decode code 449 = .ok (.iconst 2, 1) := by decide +kernel
