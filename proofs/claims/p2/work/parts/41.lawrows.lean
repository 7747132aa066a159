theorem dL_law_0 : decode cL_law 0 = .ok (.new 8, 3) := sorry
theorem dL_law_3 : decode cL_law 3 = .ok (.dup, 1) := sorry
theorem dL_law_4 : decode cL_law 4 = .ok (.invokespecial 14, 3) := sorry
theorem dL_law_7 : decode cL_law 7 = .ok (.astore_n 1, 1) := sorry
theorem dL_law_8 : decode cL_law 8 = .ok (.new 15, 3) := sorry
theorem dL_law_11 : decode cL_law 11 = .ok (.dup, 1) := sorry
theorem dL_law_12 : decode cL_law 12 = .ok (.invokespecial 17, 3) := sorry
theorem dL_law_15 : decode cL_law 15 = .ok (.astore_n 2, 1) := sorry
theorem dL_law_16 : decode cL_law 16 = .ok (.iconst 0, 1) := sorry
theorem dL_law_17 : decode cL_law 17 = .ok (.istore_n 3, 1) := sorry
theorem dL_law_18 : decode cL_law 18 = .ok (.iload_n 3, 1) := sorry
theorem dL_law_19 : decode cL_law 19 = .ok (.aload_n 0, 1) := sorry
theorem dL_law_20 : decode cL_law 20 = .ok (.arraylength, 1) := sorry
theorem dL_law_21 : decode cL_law 21 = .ok (.bipush 7, 2) := sorry
theorem dL_law_23 : decode cL_law 23 = .ok (.isub, 1) := sorry
theorem dL_law_24 : decode cL_law 24 = .ok (.if_icmp .gt 1091, 3) := sorry
theorem dL_law_27 : decode cL_law 27 = .ok (.aload_n 0, 1) := sorry
theorem dL_law_28 : decode cL_law 28 = .ok (.iload_n 3, 1) := sorry
theorem dL_law_29 : decode cL_law 29 = .ok (.iaload, 1) := sorry
theorem dL_law_30 : decode cL_law 30 = .ok (.bipush 31, 2) := sorry
theorem dL_law_32 : decode cL_law 32 = .ok (.iand, 1) := sorry
theorem dL_law_33 : decode cL_law 33 = .ok (.tableswitch 1076 0 30 #[139, 162, 195, 270, 303, 346, 395, 428, 477, 510, 559, 582, 595, 628, 661, 720, 753, 786, 809, 842, 865, 888, 901, 924, 947, 960, 973, 1006, 1029, 1052, 1063], 139) := sorry
theorem dL_law_172 : decode cL_law 172 = .ok (.aload_n 1, 1) := sorry
theorem dL_law_173 : decode cL_law 173 = .ok (.aload_n 0, 1) := sorry
theorem dL_law_174 : decode cL_law 174 = .ok (.iload_n 3, 1) := sorry
theorem dL_law_175 : decode cL_law 175 = .ok (.iconst 1, 1) := sorry
theorem dL_law_176 : decode cL_law 176 = .ok (.iadd, 1) := sorry
theorem dL_law_177 : decode cL_law 177 = .ok (.iaload, 1) := sorry
theorem dL_law_178 : decode cL_law 178 = .ok (.invokevirtual 18, 3) := sorry
theorem dL_law_181 : decode cL_law 181 = .ok (.aload_n 2, 1) := sorry
theorem dL_law_182 : decode cL_law 182 = .ok (.aload_n 0, 1) := sorry
theorem dL_law_183 : decode cL_law 183 = .ok (.iload_n 3, 1) := sorry
theorem dL_law_184 : decode cL_law 184 = .ok (.iconst 1, 1) := sorry
theorem dL_law_185 : decode cL_law 185 = .ok (.iadd, 1) := sorry
theorem dL_law_186 : decode cL_law 186 = .ok (.iaload, 1) := sorry
theorem dL_law_187 : decode cL_law 187 = .ok (.invokevirtual 22, 3) := sorry
theorem dL_law_190 : decode cL_law 190 = .ok (.if_icmp .eq 919, 3) := sorry
theorem dL_law_193 : decode cL_law 193 = .ok (.iconst 0, 1) := sorry
theorem dL_law_194 : decode cL_law 194 = .ok (.ireturn, 1) := sorry
theorem dL_law_195 : decode cL_law 195 = .ok (.aload_n 1, 1) := sorry
theorem dL_law_196 : decode cL_law 196 = .ok (.aload_n 0, 1) := sorry
theorem dL_law_197 : decode cL_law 197 = .ok (.iload_n 3, 1) := sorry
theorem dL_law_198 : decode cL_law 198 = .ok (.iconst 1, 1) := sorry
theorem dL_law_199 : decode cL_law 199 = .ok (.iadd, 1) := sorry
theorem dL_law_200 : decode cL_law 200 = .ok (.iaload, 1) := sorry
theorem dL_law_201 : decode cL_law 201 = .ok (.aload_n 0, 1) := sorry
theorem dL_law_202 : decode cL_law 202 = .ok (.iload_n 3, 1) := sorry
theorem dL_law_203 : decode cL_law 203 = .ok (.iconst 2, 1) := sorry
theorem dL_law_204 : decode cL_law 204 = .ok (.iadd, 1) := sorry
theorem dL_law_205 : decode cL_law 205 = .ok (.iaload, 1) := sorry
theorem dL_law_206 : decode cL_law 206 = .ok (.invokevirtual 23, 3) := sorry
theorem dL_law_209 : decode cL_law 209 = .ok (.pop, 1) := sorry
theorem dL_law_210 : decode cL_law 210 = .ok (.aload_n 2, 1) := sorry
theorem dL_law_211 : decode cL_law 211 = .ok (.aload_n 0, 1) := sorry
theorem dL_law_212 : decode cL_law 212 = .ok (.iload_n 3, 1) := sorry
theorem dL_law_213 : decode cL_law 213 = .ok (.iconst 1, 1) := sorry
theorem dL_law_214 : decode cL_law 214 = .ok (.iadd, 1) := sorry
theorem dL_law_215 : decode cL_law 215 = .ok (.iaload, 1) := sorry
theorem dL_law_216 : decode cL_law 216 = .ok (.aload_n 0, 1) := sorry
theorem dL_law_217 : decode cL_law 217 = .ok (.iload_n 3, 1) := sorry
theorem dL_law_218 : decode cL_law 218 = .ok (.iconst 2, 1) := sorry
theorem dL_law_219 : decode cL_law 219 = .ok (.iadd, 1) := sorry
theorem dL_law_220 : decode cL_law 220 = .ok (.iaload, 1) := sorry
theorem dL_law_221 : decode cL_law 221 = .ok (.invokevirtual 27, 3) := sorry
theorem dL_law_224 : decode cL_law 224 = .ok (.pop, 1) := sorry
theorem dL_law_225 : decode cL_law 225 = .ok (.goto 884, 3) := sorry
theorem dL_law_228 : decode cL_law 228 = .ok (.aload_n 1, 1) := sorry
theorem dL_law_229 : decode cL_law 229 = .ok (.aload_n 0, 1) := sorry
theorem dL_law_230 : decode cL_law 230 = .ok (.iload_n 3, 1) := sorry
theorem dL_law_231 : decode cL_law 231 = .ok (.iconst 1, 1) := sorry
theorem dL_law_232 : decode cL_law 232 = .ok (.iadd, 1) := sorry
theorem dL_law_233 : decode cL_law 233 = .ok (.iaload, 1) := sorry
theorem dL_law_234 : decode cL_law 234 = .ok (.aload_n 0, 1) := sorry
theorem dL_law_235 : decode cL_law 235 = .ok (.iload_n 3, 1) := sorry
theorem dL_law_236 : decode cL_law 236 = .ok (.iconst 2, 1) := sorry
theorem dL_law_237 : decode cL_law 237 = .ok (.iadd, 1) := sorry
theorem dL_law_238 : decode cL_law 238 = .ok (.iaload, 1) := sorry
theorem dL_law_239 : decode cL_law 239 = .ok (.aload_n 0, 1) := sorry
theorem dL_law_240 : decode cL_law 240 = .ok (.iload_n 3, 1) := sorry
theorem dL_law_241 : decode cL_law 241 = .ok (.iconst 3, 1) := sorry
theorem dL_law_242 : decode cL_law 242 = .ok (.iadd, 1) := sorry
theorem dL_law_243 : decode cL_law 243 = .ok (.iaload, 1) := sorry
theorem dL_law_244 : decode cL_law 244 = .ok (.aload_n 0, 1) := sorry
theorem dL_law_245 : decode cL_law 245 = .ok (.iload_n 3, 1) := sorry
theorem dL_law_246 : decode cL_law 246 = .ok (.iconst 4, 1) := sorry
theorem dL_law_247 : decode cL_law 247 = .ok (.iadd, 1) := sorry
theorem dL_law_248 : decode cL_law 248 = .ok (.iaload, 1) := sorry
theorem dL_law_249 : decode cL_law 249 = .ok (.aload_n 0, 1) := sorry
theorem dL_law_250 : decode cL_law 250 = .ok (.iload_n 3, 1) := sorry
theorem dL_law_251 : decode cL_law 251 = .ok (.iconst 5, 1) := sorry
theorem dL_law_252 : decode cL_law 252 = .ok (.iadd, 1) := sorry
theorem dL_law_253 : decode cL_law 253 = .ok (.iaload, 1) := sorry
theorem dL_law_254 : decode cL_law 254 = .ok (.aload_n 0, 1) := sorry
theorem dL_law_255 : decode cL_law 255 = .ok (.iload_n 3, 1) := sorry
theorem dL_law_256 : decode cL_law 256 = .ok (.bipush 6, 2) := sorry
theorem dL_law_258 : decode cL_law 258 = .ok (.iadd, 1) := sorry
theorem dL_law_259 : decode cL_law 259 = .ok (.iaload, 1) := sorry
theorem dL_law_260 : decode cL_law 260 = .ok (.invokevirtual 28, 3) := sorry
theorem dL_law_263 : decode cL_law 263 = .ok (.pop, 1) := sorry
theorem dL_law_264 : decode cL_law 264 = .ok (.aload_n 2, 1) := sorry
theorem dL_law_265 : decode cL_law 265 = .ok (.aload_n 0, 1) := sorry
theorem dL_law_266 : decode cL_law 266 = .ok (.iload_n 3, 1) := sorry
theorem dL_law_267 : decode cL_law 267 = .ok (.iconst 1, 1) := sorry
theorem dL_law_268 : decode cL_law 268 = .ok (.iadd, 1) := sorry
theorem dL_law_269 : decode cL_law 269 = .ok (.iaload, 1) := sorry
theorem dL_law_270 : decode cL_law 270 = .ok (.aload_n 0, 1) := sorry
theorem dL_law_271 : decode cL_law 271 = .ok (.iload_n 3, 1) := sorry
theorem dL_law_272 : decode cL_law 272 = .ok (.iconst 2, 1) := sorry
theorem dL_law_273 : decode cL_law 273 = .ok (.iadd, 1) := sorry
theorem dL_law_274 : decode cL_law 274 = .ok (.iaload, 1) := sorry
theorem dL_law_275 : decode cL_law 275 = .ok (.aload_n 0, 1) := sorry
theorem dL_law_276 : decode cL_law 276 = .ok (.iload_n 3, 1) := sorry
theorem dL_law_277 : decode cL_law 277 = .ok (.iconst 3, 1) := sorry
theorem dL_law_278 : decode cL_law 278 = .ok (.iadd, 1) := sorry
theorem dL_law_279 : decode cL_law 279 = .ok (.iaload, 1) := sorry
theorem dL_law_280 : decode cL_law 280 = .ok (.aload_n 0, 1) := sorry
theorem dL_law_281 : decode cL_law 281 = .ok (.iload_n 3, 1) := sorry
theorem dL_law_282 : decode cL_law 282 = .ok (.iconst 4, 1) := sorry
theorem dL_law_283 : decode cL_law 283 = .ok (.iadd, 1) := sorry
theorem dL_law_284 : decode cL_law 284 = .ok (.iaload, 1) := sorry
theorem dL_law_285 : decode cL_law 285 = .ok (.aload_n 0, 1) := sorry
theorem dL_law_286 : decode cL_law 286 = .ok (.iload_n 3, 1) := sorry
theorem dL_law_287 : decode cL_law 287 = .ok (.iconst 5, 1) := sorry
theorem dL_law_288 : decode cL_law 288 = .ok (.iadd, 1) := sorry
theorem dL_law_289 : decode cL_law 289 = .ok (.iaload, 1) := sorry
theorem dL_law_290 : decode cL_law 290 = .ok (.aload_n 0, 1) := sorry
theorem dL_law_291 : decode cL_law 291 = .ok (.iload_n 3, 1) := sorry
theorem dL_law_292 : decode cL_law 292 = .ok (.bipush 6, 2) := sorry
theorem dL_law_294 : decode cL_law 294 = .ok (.iadd, 1) := sorry
theorem dL_law_295 : decode cL_law 295 = .ok (.iaload, 1) := sorry
theorem dL_law_296 : decode cL_law 296 = .ok (.invokevirtual 32, 3) := sorry
theorem dL_law_299 : decode cL_law 299 = .ok (.pop, 1) := sorry
theorem dL_law_300 : decode cL_law 300 = .ok (.goto 809, 3) := sorry
theorem dL_law_303 : decode cL_law 303 = .ok (.aload_n 1, 1) := sorry
theorem dL_law_304 : decode cL_law 304 = .ok (.aload_n 0, 1) := sorry
theorem dL_law_305 : decode cL_law 305 = .ok (.iload_n 3, 1) := sorry
theorem dL_law_306 : decode cL_law 306 = .ok (.iconst 1, 1) := sorry
theorem dL_law_307 : decode cL_law 307 = .ok (.iadd, 1) := sorry
theorem dL_law_308 : decode cL_law 308 = .ok (.iaload, 1) := sorry
theorem dL_law_309 : decode cL_law 309 = .ok (.aload_n 0, 1) := sorry
theorem dL_law_310 : decode cL_law 310 = .ok (.iload_n 3, 1) := sorry
theorem dL_law_311 : decode cL_law 311 = .ok (.iconst 2, 1) := sorry
theorem dL_law_312 : decode cL_law 312 = .ok (.iadd, 1) := sorry
theorem dL_law_313 : decode cL_law 313 = .ok (.iaload, 1) := sorry
theorem dL_law_314 : decode cL_law 314 = .ok (.invokevirtual 33, 3) := sorry
theorem dL_law_317 : decode cL_law 317 = .ok (.pop, 1) := sorry
theorem dL_law_318 : decode cL_law 318 = .ok (.aload_n 2, 1) := sorry
theorem dL_law_319 : decode cL_law 319 = .ok (.aload_n 0, 1) := sorry
theorem dL_law_320 : decode cL_law 320 = .ok (.iload_n 3, 1) := sorry
theorem dL_law_321 : decode cL_law 321 = .ok (.iconst 1, 1) := sorry
theorem dL_law_322 : decode cL_law 322 = .ok (.iadd, 1) := sorry
theorem dL_law_323 : decode cL_law 323 = .ok (.iaload, 1) := sorry
theorem dL_law_324 : decode cL_law 324 = .ok (.aload_n 0, 1) := sorry
theorem dL_law_325 : decode cL_law 325 = .ok (.iload_n 3, 1) := sorry
theorem dL_law_326 : decode cL_law 326 = .ok (.iconst 2, 1) := sorry
theorem dL_law_327 : decode cL_law 327 = .ok (.iadd, 1) := sorry
theorem dL_law_328 : decode cL_law 328 = .ok (.iaload, 1) := sorry
theorem dL_law_329 : decode cL_law 329 = .ok (.invokevirtual 37, 3) := sorry
theorem dL_law_332 : decode cL_law 332 = .ok (.pop, 1) := sorry
theorem dL_law_333 : decode cL_law 333 = .ok (.goto 776, 3) := sorry
theorem dL_law_336 : decode cL_law 336 = .ok (.aload_n 1, 1) := sorry
theorem dL_law_337 : decode cL_law 337 = .ok (.aload_n 0, 1) := sorry
theorem dL_law_338 : decode cL_law 338 = .ok (.iload_n 3, 1) := sorry
theorem dL_law_339 : decode cL_law 339 = .ok (.iconst 1, 1) := sorry
theorem dL_law_340 : decode cL_law 340 = .ok (.iadd, 1) := sorry
theorem dL_law_341 : decode cL_law 341 = .ok (.iaload, 1) := sorry
theorem dL_law_342 : decode cL_law 342 = .ok (.aload_n 0, 1) := sorry
theorem dL_law_343 : decode cL_law 343 = .ok (.iload_n 3, 1) := sorry
theorem dL_law_344 : decode cL_law 344 = .ok (.iconst 2, 1) := sorry
theorem dL_law_345 : decode cL_law 345 = .ok (.iadd, 1) := sorry
theorem dL_law_346 : decode cL_law 346 = .ok (.iaload, 1) := sorry
theorem dL_law_347 : decode cL_law 347 = .ok (.aload_n 0, 1) := sorry
theorem dL_law_348 : decode cL_law 348 = .ok (.iload_n 3, 1) := sorry
theorem dL_law_349 : decode cL_law 349 = .ok (.iconst 3, 1) := sorry
theorem dL_law_350 : decode cL_law 350 = .ok (.iadd, 1) := sorry
theorem dL_law_351 : decode cL_law 351 = .ok (.iaload, 1) := sorry
theorem dL_law_352 : decode cL_law 352 = .ok (.invokevirtual 38, 3) := sorry
theorem dL_law_355 : decode cL_law 355 = .ok (.pop, 1) := sorry
theorem dL_law_356 : decode cL_law 356 = .ok (.aload_n 2, 1) := sorry
theorem dL_law_357 : decode cL_law 357 = .ok (.aload_n 0, 1) := sorry
theorem dL_law_358 : decode cL_law 358 = .ok (.iload_n 3, 1) := sorry
theorem dL_law_359 : decode cL_law 359 = .ok (.iconst 1, 1) := sorry
theorem dL_law_360 : decode cL_law 360 = .ok (.iadd, 1) := sorry
theorem dL_law_361 : decode cL_law 361 = .ok (.iaload, 1) := sorry
theorem dL_law_362 : decode cL_law 362 = .ok (.aload_n 0, 1) := sorry
theorem dL_law_363 : decode cL_law 363 = .ok (.iload_n 3, 1) := sorry
theorem dL_law_364 : decode cL_law 364 = .ok (.iconst 2, 1) := sorry
theorem dL_law_365 : decode cL_law 365 = .ok (.iadd, 1) := sorry
theorem dL_law_366 : decode cL_law 366 = .ok (.iaload, 1) := sorry
theorem dL_law_367 : decode cL_law 367 = .ok (.aload_n 0, 1) := sorry
theorem dL_law_368 : decode cL_law 368 = .ok (.iload_n 3, 1) := sorry
theorem dL_law_369 : decode cL_law 369 = .ok (.iconst 3, 1) := sorry
theorem dL_law_370 : decode cL_law 370 = .ok (.iadd, 1) := sorry
theorem dL_law_371 : decode cL_law 371 = .ok (.iaload, 1) := sorry
theorem dL_law_372 : decode cL_law 372 = .ok (.invokevirtual 42, 3) := sorry
theorem dL_law_375 : decode cL_law 375 = .ok (.pop, 1) := sorry
theorem dL_law_376 : decode cL_law 376 = .ok (.goto 733, 3) := sorry
theorem dL_law_379 : decode cL_law 379 = .ok (.aload_n 1, 1) := sorry
theorem dL_law_380 : decode cL_law 380 = .ok (.aload_n 0, 1) := sorry
theorem dL_law_381 : decode cL_law 381 = .ok (.iload_n 3, 1) := sorry
theorem dL_law_382 : decode cL_law 382 = .ok (.iconst 1, 1) := sorry
theorem dL_law_383 : decode cL_law 383 = .ok (.iadd, 1) := sorry
theorem dL_law_384 : decode cL_law 384 = .ok (.iaload, 1) := sorry
theorem dL_law_385 : decode cL_law 385 = .ok (.aload_n 0, 1) := sorry
theorem dL_law_386 : decode cL_law 386 = .ok (.iload_n 3, 1) := sorry
theorem dL_law_387 : decode cL_law 387 = .ok (.iconst 2, 1) := sorry
theorem dL_law_388 : decode cL_law 388 = .ok (.iadd, 1) := sorry
theorem dL_law_389 : decode cL_law 389 = .ok (.iaload, 1) := sorry
theorem dL_law_390 : decode cL_law 390 = .ok (.ifCond .eq 7, 3) := sorry
theorem dL_law_393 : decode cL_law 393 = .ok (.iconst 1, 1) := sorry
theorem dL_law_394 : decode cL_law 394 = .ok (.goto 4, 3) := sorry
theorem dL_law_397 : decode cL_law 397 = .ok (.iconst 0, 1) := sorry
theorem dL_law_398 : decode cL_law 398 = .ok (.invokevirtual 43, 3) := sorry
theorem dL_law_401 : decode cL_law 401 = .ok (.pop, 1) := sorry
theorem dL_law_402 : decode cL_law 402 = .ok (.aload_n 2, 1) := sorry
theorem dL_law_403 : decode cL_law 403 = .ok (.aload_n 0, 1) := sorry
theorem dL_law_404 : decode cL_law 404 = .ok (.iload_n 3, 1) := sorry
theorem dL_law_405 : decode cL_law 405 = .ok (.iconst 1, 1) := sorry
theorem dL_law_406 : decode cL_law 406 = .ok (.iadd, 1) := sorry
theorem dL_law_407 : decode cL_law 407 = .ok (.iaload, 1) := sorry
theorem dL_law_408 : decode cL_law 408 = .ok (.aload_n 0, 1) := sorry
theorem dL_law_409 : decode cL_law 409 = .ok (.iload_n 3, 1) := sorry
theorem dL_law_410 : decode cL_law 410 = .ok (.iconst 2, 1) := sorry
theorem dL_law_411 : decode cL_law 411 = .ok (.iadd, 1) := sorry
theorem dL_law_412 : decode cL_law 412 = .ok (.iaload, 1) := sorry
theorem dL_law_413 : decode cL_law 413 = .ok (.ifCond .eq 7, 3) := sorry
theorem dL_law_416 : decode cL_law 416 = .ok (.iconst 1, 1) := sorry
theorem dL_law_417 : decode cL_law 417 = .ok (.goto 4, 3) := sorry
theorem dL_law_420 : decode cL_law 420 = .ok (.iconst 0, 1) := sorry
theorem dL_law_421 : decode cL_law 421 = .ok (.invokevirtual 47, 3) := sorry
theorem dL_law_424 : decode cL_law 424 = .ok (.pop, 1) := sorry
theorem dL_law_425 : decode cL_law 425 = .ok (.goto 684, 3) := sorry
theorem dL_law_428 : decode cL_law 428 = .ok (.aload_n 1, 1) := sorry
theorem dL_law_429 : decode cL_law 429 = .ok (.aload_n 0, 1) := sorry
theorem dL_law_430 : decode cL_law 430 = .ok (.iload_n 3, 1) := sorry
theorem dL_law_431 : decode cL_law 431 = .ok (.iconst 1, 1) := sorry
theorem dL_law_432 : decode cL_law 432 = .ok (.iadd, 1) := sorry
theorem dL_law_433 : decode cL_law 433 = .ok (.iaload, 1) := sorry
theorem dL_law_434 : decode cL_law 434 = .ok (.aload_n 0, 1) := sorry
theorem dL_law_435 : decode cL_law 435 = .ok (.iload_n 3, 1) := sorry
theorem dL_law_436 : decode cL_law 436 = .ok (.iconst 2, 1) := sorry
theorem dL_law_437 : decode cL_law 437 = .ok (.iadd, 1) := sorry
theorem dL_law_438 : decode cL_law 438 = .ok (.iaload, 1) := sorry
theorem dL_law_439 : decode cL_law 439 = .ok (.invokevirtual 48, 3) := sorry
theorem dL_law_442 : decode cL_law 442 = .ok (.pop, 1) := sorry
theorem dL_law_443 : decode cL_law 443 = .ok (.aload_n 2, 1) := sorry
theorem dL_law_444 : decode cL_law 444 = .ok (.aload_n 0, 1) := sorry
theorem dL_law_445 : decode cL_law 445 = .ok (.iload_n 3, 1) := sorry
theorem dL_law_446 : decode cL_law 446 = .ok (.iconst 1, 1) := sorry
theorem dL_law_447 : decode cL_law 447 = .ok (.iadd, 1) := sorry
theorem dL_law_448 : decode cL_law 448 = .ok (.iaload, 1) := sorry
theorem dL_law_449 : decode cL_law 449 = .ok (.aload_n 0, 1) := sorry
theorem dL_law_450 : decode cL_law 450 = .ok (.iload_n 3, 1) := sorry
theorem dL_law_451 : decode cL_law 451 = .ok (.iconst 2, 1) := sorry
theorem dL_law_452 : decode cL_law 452 = .ok (.iadd, 1) := sorry
theorem dL_law_453 : decode cL_law 453 = .ok (.iaload, 1) := sorry
theorem dL_law_454 : decode cL_law 454 = .ok (.invokevirtual 51, 3) := sorry
theorem dL_law_457 : decode cL_law 457 = .ok (.pop, 1) := sorry
theorem dL_law_458 : decode cL_law 458 = .ok (.goto 651, 3) := sorry
theorem dL_law_461 : decode cL_law 461 = .ok (.aload_n 1, 1) := sorry
theorem dL_law_462 : decode cL_law 462 = .ok (.aload_n 0, 1) := sorry
theorem dL_law_463 : decode cL_law 463 = .ok (.iload_n 3, 1) := sorry
theorem dL_law_464 : decode cL_law 464 = .ok (.iconst 1, 1) := sorry
theorem dL_law_465 : decode cL_law 465 = .ok (.iadd, 1) := sorry
theorem dL_law_466 : decode cL_law 466 = .ok (.iaload, 1) := sorry
theorem dL_law_467 : decode cL_law 467 = .ok (.aload_n 0, 1) := sorry
theorem dL_law_468 : decode cL_law 468 = .ok (.iload_n 3, 1) := sorry
theorem dL_law_469 : decode cL_law 469 = .ok (.iconst 2, 1) := sorry
theorem dL_law_470 : decode cL_law 470 = .ok (.iadd, 1) := sorry
theorem dL_law_471 : decode cL_law 471 = .ok (.iaload, 1) := sorry
theorem dL_law_472 : decode cL_law 472 = .ok (.ifCond .eq 7, 3) := sorry
theorem dL_law_475 : decode cL_law 475 = .ok (.iconst 1, 1) := sorry
theorem dL_law_476 : decode cL_law 476 = .ok (.goto 4, 3) := sorry
theorem dL_law_479 : decode cL_law 479 = .ok (.iconst 0, 1) := sorry
theorem dL_law_480 : decode cL_law 480 = .ok (.invokevirtual 52, 3) := sorry
theorem dL_law_483 : decode cL_law 483 = .ok (.pop, 1) := sorry
theorem dL_law_484 : decode cL_law 484 = .ok (.aload_n 2, 1) := sorry
theorem dL_law_485 : decode cL_law 485 = .ok (.aload_n 0, 1) := sorry
theorem dL_law_486 : decode cL_law 486 = .ok (.iload_n 3, 1) := sorry
theorem dL_law_487 : decode cL_law 487 = .ok (.iconst 1, 1) := sorry
theorem dL_law_488 : decode cL_law 488 = .ok (.iadd, 1) := sorry
theorem dL_law_489 : decode cL_law 489 = .ok (.iaload, 1) := sorry
theorem dL_law_490 : decode cL_law 490 = .ok (.aload_n 0, 1) := sorry
theorem dL_law_491 : decode cL_law 491 = .ok (.iload_n 3, 1) := sorry
theorem dL_law_492 : decode cL_law 492 = .ok (.iconst 2, 1) := sorry
theorem dL_law_493 : decode cL_law 493 = .ok (.iadd, 1) := sorry
theorem dL_law_494 : decode cL_law 494 = .ok (.iaload, 1) := sorry
theorem dL_law_495 : decode cL_law 495 = .ok (.ifCond .eq 7, 3) := sorry
theorem dL_law_498 : decode cL_law 498 = .ok (.iconst 1, 1) := sorry
theorem dL_law_499 : decode cL_law 499 = .ok (.goto 4, 3) := sorry
theorem dL_law_502 : decode cL_law 502 = .ok (.iconst 0, 1) := sorry
theorem dL_law_503 : decode cL_law 503 = .ok (.invokevirtual 55, 3) := sorry
theorem dL_law_506 : decode cL_law 506 = .ok (.pop, 1) := sorry
theorem dL_law_507 : decode cL_law 507 = .ok (.goto 602, 3) := sorry
theorem dL_law_510 : decode cL_law 510 = .ok (.aload_n 1, 1) := sorry
theorem dL_law_511 : decode cL_law 511 = .ok (.aload_n 0, 1) := sorry
theorem dL_law_512 : decode cL_law 512 = .ok (.iload_n 3, 1) := sorry
theorem dL_law_513 : decode cL_law 513 = .ok (.iconst 1, 1) := sorry
theorem dL_law_514 : decode cL_law 514 = .ok (.iadd, 1) := sorry
theorem dL_law_515 : decode cL_law 515 = .ok (.iaload, 1) := sorry
theorem dL_law_516 : decode cL_law 516 = .ok (.aload_n 0, 1) := sorry
theorem dL_law_517 : decode cL_law 517 = .ok (.iload_n 3, 1) := sorry
theorem dL_law_518 : decode cL_law 518 = .ok (.iconst 2, 1) := sorry
theorem dL_law_519 : decode cL_law 519 = .ok (.iadd, 1) := sorry
theorem dL_law_520 : decode cL_law 520 = .ok (.iaload, 1) := sorry
theorem dL_law_521 : decode cL_law 521 = .ok (.invokevirtual 56, 3) := sorry
theorem dL_law_524 : decode cL_law 524 = .ok (.pop, 1) := sorry
theorem dL_law_525 : decode cL_law 525 = .ok (.aload_n 2, 1) := sorry
theorem dL_law_526 : decode cL_law 526 = .ok (.aload_n 0, 1) := sorry
theorem dL_law_527 : decode cL_law 527 = .ok (.iload_n 3, 1) := sorry
theorem dL_law_528 : decode cL_law 528 = .ok (.iconst 1, 1) := sorry
theorem dL_law_529 : decode cL_law 529 = .ok (.iadd, 1) := sorry
theorem dL_law_530 : decode cL_law 530 = .ok (.iaload, 1) := sorry
theorem dL_law_531 : decode cL_law 531 = .ok (.aload_n 0, 1) := sorry
theorem dL_law_532 : decode cL_law 532 = .ok (.iload_n 3, 1) := sorry
theorem dL_law_533 : decode cL_law 533 = .ok (.iconst 2, 1) := sorry
theorem dL_law_534 : decode cL_law 534 = .ok (.iadd, 1) := sorry
theorem dL_law_535 : decode cL_law 535 = .ok (.iaload, 1) := sorry
theorem dL_law_536 : decode cL_law 536 = .ok (.invokevirtual 59, 3) := sorry
theorem dL_law_539 : decode cL_law 539 = .ok (.pop, 1) := sorry
theorem dL_law_540 : decode cL_law 540 = .ok (.goto 569, 3) := sorry
theorem dL_law_543 : decode cL_law 543 = .ok (.aload_n 1, 1) := sorry
theorem dL_law_544 : decode cL_law 544 = .ok (.aload_n 0, 1) := sorry
theorem dL_law_545 : decode cL_law 545 = .ok (.iload_n 3, 1) := sorry
theorem dL_law_546 : decode cL_law 546 = .ok (.iconst 1, 1) := sorry
theorem dL_law_547 : decode cL_law 547 = .ok (.iadd, 1) := sorry
theorem dL_law_548 : decode cL_law 548 = .ok (.iaload, 1) := sorry
theorem dL_law_549 : decode cL_law 549 = .ok (.aload_n 0, 1) := sorry
theorem dL_law_550 : decode cL_law 550 = .ok (.iload_n 3, 1) := sorry
theorem dL_law_551 : decode cL_law 551 = .ok (.iconst 2, 1) := sorry
theorem dL_law_552 : decode cL_law 552 = .ok (.iadd, 1) := sorry
theorem dL_law_553 : decode cL_law 553 = .ok (.iaload, 1) := sorry
theorem dL_law_554 : decode cL_law 554 = .ok (.ifCond .eq 7, 3) := sorry
theorem dL_law_557 : decode cL_law 557 = .ok (.iconst 1, 1) := sorry
theorem dL_law_558 : decode cL_law 558 = .ok (.goto 4, 3) := sorry
theorem dL_law_561 : decode cL_law 561 = .ok (.iconst 0, 1) := sorry
theorem dL_law_562 : decode cL_law 562 = .ok (.invokevirtual 60, 3) := sorry
theorem dL_law_565 : decode cL_law 565 = .ok (.pop, 1) := sorry
theorem dL_law_566 : decode cL_law 566 = .ok (.aload_n 2, 1) := sorry
theorem dL_law_567 : decode cL_law 567 = .ok (.aload_n 0, 1) := sorry
theorem dL_law_568 : decode cL_law 568 = .ok (.iload_n 3, 1) := sorry
theorem dL_law_569 : decode cL_law 569 = .ok (.iconst 1, 1) := sorry
theorem dL_law_570 : decode cL_law 570 = .ok (.iadd, 1) := sorry
theorem dL_law_571 : decode cL_law 571 = .ok (.iaload, 1) := sorry
theorem dL_law_572 : decode cL_law 572 = .ok (.aload_n 0, 1) := sorry
theorem dL_law_573 : decode cL_law 573 = .ok (.iload_n 3, 1) := sorry
theorem dL_law_574 : decode cL_law 574 = .ok (.iconst 2, 1) := sorry
theorem dL_law_575 : decode cL_law 575 = .ok (.iadd, 1) := sorry
theorem dL_law_576 : decode cL_law 576 = .ok (.iaload, 1) := sorry
theorem dL_law_577 : decode cL_law 577 = .ok (.ifCond .eq 7, 3) := sorry
theorem dL_law_580 : decode cL_law 580 = .ok (.iconst 1, 1) := sorry
theorem dL_law_581 : decode cL_law 581 = .ok (.goto 4, 3) := sorry
theorem dL_law_584 : decode cL_law 584 = .ok (.iconst 0, 1) := sorry
theorem dL_law_585 : decode cL_law 585 = .ok (.invokevirtual 63, 3) := sorry
theorem dL_law_588 : decode cL_law 588 = .ok (.pop, 1) := sorry
theorem dL_law_589 : decode cL_law 589 = .ok (.goto 520, 3) := sorry
theorem dL_law_592 : decode cL_law 592 = .ok (.aload_n 1, 1) := sorry
theorem dL_law_593 : decode cL_law 593 = .ok (.aload_n 0, 1) := sorry
theorem dL_law_594 : decode cL_law 594 = .ok (.iload_n 3, 1) := sorry
theorem dL_law_595 : decode cL_law 595 = .ok (.iconst 1, 1) := sorry
theorem dL_law_596 : decode cL_law 596 = .ok (.iadd, 1) := sorry
theorem dL_law_597 : decode cL_law 597 = .ok (.iaload, 1) := sorry
theorem dL_law_598 : decode cL_law 598 = .ok (.invokevirtual 64, 3) := sorry
theorem dL_law_601 : decode cL_law 601 = .ok (.pop, 1) := sorry
theorem dL_law_602 : decode cL_law 602 = .ok (.aload_n 2, 1) := sorry
theorem dL_law_603 : decode cL_law 603 = .ok (.aload_n 0, 1) := sorry
theorem dL_law_604 : decode cL_law 604 = .ok (.iload_n 3, 1) := sorry
theorem dL_law_605 : decode cL_law 605 = .ok (.iconst 1, 1) := sorry
theorem dL_law_606 : decode cL_law 606 = .ok (.iadd, 1) := sorry
theorem dL_law_607 : decode cL_law 607 = .ok (.iaload, 1) := sorry
theorem dL_law_608 : decode cL_law 608 = .ok (.invokevirtual 67, 3) := sorry
theorem dL_law_611 : decode cL_law 611 = .ok (.pop, 1) := sorry
theorem dL_law_612 : decode cL_law 612 = .ok (.goto 497, 3) := sorry
theorem dL_law_615 : decode cL_law 615 = .ok (.aload_n 1, 1) := sorry
theorem dL_law_616 : decode cL_law 616 = .ok (.invokevirtual 68, 3) := sorry
theorem dL_law_619 : decode cL_law 619 = .ok (.pop, 1) := sorry
theorem dL_law_620 : decode cL_law 620 = .ok (.aload_n 2, 1) := sorry
theorem dL_law_621 : decode cL_law 621 = .ok (.invokevirtual 72, 3) := sorry
theorem dL_law_624 : decode cL_law 624 = .ok (.pop, 1) := sorry
theorem dL_law_625 : decode cL_law 625 = .ok (.goto 484, 3) := sorry
theorem dL_law_628 : decode cL_law 628 = .ok (.aload_n 1, 1) := sorry
theorem dL_law_629 : decode cL_law 629 = .ok (.aload_n 0, 1) := sorry
theorem dL_law_630 : decode cL_law 630 = .ok (.iload_n 3, 1) := sorry
theorem dL_law_631 : decode cL_law 631 = .ok (.iconst 1, 1) := sorry
theorem dL_law_632 : decode cL_law 632 = .ok (.iadd, 1) := sorry
theorem dL_law_633 : decode cL_law 633 = .ok (.iaload, 1) := sorry
theorem dL_law_634 : decode cL_law 634 = .ok (.aload_n 0, 1) := sorry
theorem dL_law_635 : decode cL_law 635 = .ok (.iload_n 3, 1) := sorry
theorem dL_law_636 : decode cL_law 636 = .ok (.iconst 2, 1) := sorry
theorem dL_law_637 : decode cL_law 637 = .ok (.iadd, 1) := sorry
theorem dL_law_638 : decode cL_law 638 = .ok (.iaload, 1) := sorry
theorem dL_law_639 : decode cL_law 639 = .ok (.invokevirtual 73, 3) := sorry
theorem dL_law_642 : decode cL_law 642 = .ok (.pop, 1) := sorry
theorem dL_law_643 : decode cL_law 643 = .ok (.aload_n 2, 1) := sorry
theorem dL_law_644 : decode cL_law 644 = .ok (.aload_n 0, 1) := sorry
theorem dL_law_645 : decode cL_law 645 = .ok (.iload_n 3, 1) := sorry
theorem dL_law_646 : decode cL_law 646 = .ok (.iconst 1, 1) := sorry
theorem dL_law_647 : decode cL_law 647 = .ok (.iadd, 1) := sorry
theorem dL_law_648 : decode cL_law 648 = .ok (.iaload, 1) := sorry
theorem dL_law_649 : decode cL_law 649 = .ok (.aload_n 0, 1) := sorry
theorem dL_law_650 : decode cL_law 650 = .ok (.iload_n 3, 1) := sorry
theorem dL_law_651 : decode cL_law 651 = .ok (.iconst 2, 1) := sorry
theorem dL_law_652 : decode cL_law 652 = .ok (.iadd, 1) := sorry
theorem dL_law_653 : decode cL_law 653 = .ok (.iaload, 1) := sorry
theorem dL_law_654 : decode cL_law 654 = .ok (.invokevirtual 76, 3) := sorry
theorem dL_law_657 : decode cL_law 657 = .ok (.pop, 1) := sorry
theorem dL_law_658 : decode cL_law 658 = .ok (.goto 451, 3) := sorry
theorem dL_law_661 : decode cL_law 661 = .ok (.aload_n 1, 1) := sorry
theorem dL_law_662 : decode cL_law 662 = .ok (.aload_n 0, 1) := sorry
theorem dL_law_663 : decode cL_law 663 = .ok (.iload_n 3, 1) := sorry
theorem dL_law_664 : decode cL_law 664 = .ok (.iconst 1, 1) := sorry
theorem dL_law_665 : decode cL_law 665 = .ok (.iadd, 1) := sorry
theorem dL_law_666 : decode cL_law 666 = .ok (.iaload, 1) := sorry
theorem dL_law_667 : decode cL_law 667 = .ok (.aload_n 0, 1) := sorry
theorem dL_law_668 : decode cL_law 668 = .ok (.iload_n 3, 1) := sorry
theorem dL_law_669 : decode cL_law 669 = .ok (.iconst 2, 1) := sorry
theorem dL_law_670 : decode cL_law 670 = .ok (.iadd, 1) := sorry
theorem dL_law_671 : decode cL_law 671 = .ok (.iaload, 1) := sorry
theorem dL_law_672 : decode cL_law 672 = .ok (.invokevirtual 77, 3) := sorry
theorem dL_law_675 : decode cL_law 675 = .ok (.pop, 1) := sorry
theorem dL_law_676 : decode cL_law 676 = .ok (.aload_n 2, 1) := sorry
theorem dL_law_677 : decode cL_law 677 = .ok (.aload_n 0, 1) := sorry
theorem dL_law_678 : decode cL_law 678 = .ok (.iload_n 3, 1) := sorry
theorem dL_law_679 : decode cL_law 679 = .ok (.iconst 1, 1) := sorry
theorem dL_law_680 : decode cL_law 680 = .ok (.iadd, 1) := sorry
theorem dL_law_681 : decode cL_law 681 = .ok (.iaload, 1) := sorry
theorem dL_law_682 : decode cL_law 682 = .ok (.aload_n 0, 1) := sorry
theorem dL_law_683 : decode cL_law 683 = .ok (.iload_n 3, 1) := sorry
theorem dL_law_684 : decode cL_law 684 = .ok (.iconst 2, 1) := sorry
theorem dL_law_685 : decode cL_law 685 = .ok (.iadd, 1) := sorry
theorem dL_law_686 : decode cL_law 686 = .ok (.iaload, 1) := sorry
theorem dL_law_687 : decode cL_law 687 = .ok (.invokevirtual 80, 3) := sorry
theorem dL_law_690 : decode cL_law 690 = .ok (.pop, 1) := sorry
theorem dL_law_691 : decode cL_law 691 = .ok (.goto 418, 3) := sorry
theorem dL_law_694 : decode cL_law 694 = .ok (.aload_n 1, 1) := sorry
theorem dL_law_695 : decode cL_law 695 = .ok (.aload_n 0, 1) := sorry
theorem dL_law_696 : decode cL_law 696 = .ok (.iload_n 3, 1) := sorry
theorem dL_law_697 : decode cL_law 697 = .ok (.iconst 1, 1) := sorry
theorem dL_law_698 : decode cL_law 698 = .ok (.iadd, 1) := sorry
theorem dL_law_699 : decode cL_law 699 = .ok (.iaload, 1) := sorry
theorem dL_law_700 : decode cL_law 700 = .ok (.aload_n 0, 1) := sorry
theorem dL_law_701 : decode cL_law 701 = .ok (.iload_n 3, 1) := sorry
theorem dL_law_702 : decode cL_law 702 = .ok (.iconst 2, 1) := sorry
theorem dL_law_703 : decode cL_law 703 = .ok (.iadd, 1) := sorry
theorem dL_law_704 : decode cL_law 704 = .ok (.iaload, 1) := sorry
theorem dL_law_705 : decode cL_law 705 = .ok (.aload_n 0, 1) := sorry
theorem dL_law_706 : decode cL_law 706 = .ok (.iload_n 3, 1) := sorry
theorem dL_law_707 : decode cL_law 707 = .ok (.iconst 3, 1) := sorry
theorem dL_law_708 : decode cL_law 708 = .ok (.iadd, 1) := sorry
theorem dL_law_709 : decode cL_law 709 = .ok (.iaload, 1) := sorry
theorem dL_law_710 : decode cL_law 710 = .ok (.ifCond .eq 7, 3) := sorry
theorem dL_law_713 : decode cL_law 713 = .ok (.iconst 1, 1) := sorry
theorem dL_law_714 : decode cL_law 714 = .ok (.goto 4, 3) := sorry
theorem dL_law_717 : decode cL_law 717 = .ok (.iconst 0, 1) := sorry
theorem dL_law_718 : decode cL_law 718 = .ok (.invokevirtual 81, 3) := sorry
theorem dL_law_721 : decode cL_law 721 = .ok (.pop, 1) := sorry
theorem dL_law_722 : decode cL_law 722 = .ok (.aload_n 2, 1) := sorry
theorem dL_law_723 : decode cL_law 723 = .ok (.aload_n 0, 1) := sorry
theorem dL_law_724 : decode cL_law 724 = .ok (.iload_n 3, 1) := sorry
theorem dL_law_725 : decode cL_law 725 = .ok (.iconst 1, 1) := sorry
theorem dL_law_726 : decode cL_law 726 = .ok (.iadd, 1) := sorry
theorem dL_law_727 : decode cL_law 727 = .ok (.iaload, 1) := sorry
theorem dL_law_728 : decode cL_law 728 = .ok (.aload_n 0, 1) := sorry
theorem dL_law_729 : decode cL_law 729 = .ok (.iload_n 3, 1) := sorry
theorem dL_law_730 : decode cL_law 730 = .ok (.iconst 2, 1) := sorry
theorem dL_law_731 : decode cL_law 731 = .ok (.iadd, 1) := sorry
theorem dL_law_732 : decode cL_law 732 = .ok (.iaload, 1) := sorry
theorem dL_law_733 : decode cL_law 733 = .ok (.aload_n 0, 1) := sorry
theorem dL_law_734 : decode cL_law 734 = .ok (.iload_n 3, 1) := sorry
theorem dL_law_735 : decode cL_law 735 = .ok (.iconst 3, 1) := sorry
theorem dL_law_736 : decode cL_law 736 = .ok (.iadd, 1) := sorry
theorem dL_law_737 : decode cL_law 737 = .ok (.iaload, 1) := sorry
theorem dL_law_738 : decode cL_law 738 = .ok (.ifCond .eq 7, 3) := sorry
theorem dL_law_741 : decode cL_law 741 = .ok (.iconst 1, 1) := sorry
theorem dL_law_742 : decode cL_law 742 = .ok (.goto 4, 3) := sorry
theorem dL_law_745 : decode cL_law 745 = .ok (.iconst 0, 1) := sorry
theorem dL_law_746 : decode cL_law 746 = .ok (.invokevirtual 85, 3) := sorry
theorem dL_law_749 : decode cL_law 749 = .ok (.pop, 1) := sorry
theorem dL_law_750 : decode cL_law 750 = .ok (.goto 359, 3) := sorry
theorem dL_law_753 : decode cL_law 753 = .ok (.aload_n 1, 1) := sorry
theorem dL_law_754 : decode cL_law 754 = .ok (.aload_n 0, 1) := sorry
theorem dL_law_755 : decode cL_law 755 = .ok (.iload_n 3, 1) := sorry
theorem dL_law_756 : decode cL_law 756 = .ok (.iconst 1, 1) := sorry
theorem dL_law_757 : decode cL_law 757 = .ok (.iadd, 1) := sorry
theorem dL_law_758 : decode cL_law 758 = .ok (.iaload, 1) := sorry
theorem dL_law_759 : decode cL_law 759 = .ok (.aload_n 0, 1) := sorry
theorem dL_law_760 : decode cL_law 760 = .ok (.iload_n 3, 1) := sorry
theorem dL_law_761 : decode cL_law 761 = .ok (.iconst 2, 1) := sorry
theorem dL_law_762 : decode cL_law 762 = .ok (.iadd, 1) := sorry
theorem dL_law_763 : decode cL_law 763 = .ok (.iaload, 1) := sorry
theorem dL_law_764 : decode cL_law 764 = .ok (.invokevirtual 86, 3) := sorry
theorem dL_law_767 : decode cL_law 767 = .ok (.pop, 1) := sorry
theorem dL_law_768 : decode cL_law 768 = .ok (.aload_n 2, 1) := sorry
theorem dL_law_769 : decode cL_law 769 = .ok (.aload_n 0, 1) := sorry
theorem dL_law_770 : decode cL_law 770 = .ok (.iload_n 3, 1) := sorry
theorem dL_law_771 : decode cL_law 771 = .ok (.iconst 1, 1) := sorry
theorem dL_law_772 : decode cL_law 772 = .ok (.iadd, 1) := sorry
theorem dL_law_773 : decode cL_law 773 = .ok (.iaload, 1) := sorry
theorem dL_law_774 : decode cL_law 774 = .ok (.aload_n 0, 1) := sorry
theorem dL_law_775 : decode cL_law 775 = .ok (.iload_n 3, 1) := sorry
theorem dL_law_776 : decode cL_law 776 = .ok (.iconst 2, 1) := sorry
theorem dL_law_777 : decode cL_law 777 = .ok (.iadd, 1) := sorry
theorem dL_law_778 : decode cL_law 778 = .ok (.iaload, 1) := sorry
theorem dL_law_779 : decode cL_law 779 = .ok (.invokevirtual 89, 3) := sorry
theorem dL_law_782 : decode cL_law 782 = .ok (.pop, 1) := sorry
theorem dL_law_783 : decode cL_law 783 = .ok (.goto 326, 3) := sorry
theorem dL_law_786 : decode cL_law 786 = .ok (.aload_n 1, 1) := sorry
theorem dL_law_787 : decode cL_law 787 = .ok (.aload_n 0, 1) := sorry
theorem dL_law_788 : decode cL_law 788 = .ok (.iload_n 3, 1) := sorry
theorem dL_law_789 : decode cL_law 789 = .ok (.iconst 1, 1) := sorry
theorem dL_law_790 : decode cL_law 790 = .ok (.iadd, 1) := sorry
theorem dL_law_791 : decode cL_law 791 = .ok (.iaload, 1) := sorry
theorem dL_law_792 : decode cL_law 792 = .ok (.aload_n 0, 1) := sorry
theorem dL_law_793 : decode cL_law 793 = .ok (.iload_n 3, 1) := sorry
theorem dL_law_794 : decode cL_law 794 = .ok (.iconst 2, 1) := sorry
theorem dL_law_795 : decode cL_law 795 = .ok (.iadd, 1) := sorry
theorem dL_law_796 : decode cL_law 796 = .ok (.iaload, 1) := sorry
theorem dL_law_797 : decode cL_law 797 = .ok (.invokevirtual 90, 3) := sorry
theorem dL_law_800 : decode cL_law 800 = .ok (.pop, 1) := sorry
theorem dL_law_801 : decode cL_law 801 = .ok (.aload_n 2, 1) := sorry
theorem dL_law_802 : decode cL_law 802 = .ok (.aload_n 0, 1) := sorry
theorem dL_law_803 : decode cL_law 803 = .ok (.iload_n 3, 1) := sorry
theorem dL_law_804 : decode cL_law 804 = .ok (.iconst 1, 1) := sorry
theorem dL_law_805 : decode cL_law 805 = .ok (.iadd, 1) := sorry
theorem dL_law_806 : decode cL_law 806 = .ok (.iaload, 1) := sorry
theorem dL_law_807 : decode cL_law 807 = .ok (.aload_n 0, 1) := sorry
theorem dL_law_808 : decode cL_law 808 = .ok (.iload_n 3, 1) := sorry
theorem dL_law_809 : decode cL_law 809 = .ok (.iconst 2, 1) := sorry
theorem dL_law_810 : decode cL_law 810 = .ok (.iadd, 1) := sorry
theorem dL_law_811 : decode cL_law 811 = .ok (.iaload, 1) := sorry
theorem dL_law_812 : decode cL_law 812 = .ok (.invokevirtual 93, 3) := sorry
theorem dL_law_815 : decode cL_law 815 = .ok (.pop, 1) := sorry
theorem dL_law_816 : decode cL_law 816 = .ok (.goto 293, 3) := sorry
theorem dL_law_819 : decode cL_law 819 = .ok (.aload_n 1, 1) := sorry
theorem dL_law_820 : decode cL_law 820 = .ok (.aload_n 0, 1) := sorry
theorem dL_law_821 : decode cL_law 821 = .ok (.iload_n 3, 1) := sorry
theorem dL_law_822 : decode cL_law 822 = .ok (.iconst 1, 1) := sorry
theorem dL_law_823 : decode cL_law 823 = .ok (.iadd, 1) := sorry
theorem dL_law_824 : decode cL_law 824 = .ok (.iaload, 1) := sorry
theorem dL_law_825 : decode cL_law 825 = .ok (.invokevirtual 94, 3) := sorry
theorem dL_law_828 : decode cL_law 828 = .ok (.pop, 1) := sorry
theorem dL_law_829 : decode cL_law 829 = .ok (.aload_n 2, 1) := sorry
theorem dL_law_830 : decode cL_law 830 = .ok (.aload_n 0, 1) := sorry
theorem dL_law_831 : decode cL_law 831 = .ok (.iload_n 3, 1) := sorry
theorem dL_law_832 : decode cL_law 832 = .ok (.iconst 1, 1) := sorry
theorem dL_law_833 : decode cL_law 833 = .ok (.iadd, 1) := sorry
theorem dL_law_834 : decode cL_law 834 = .ok (.iaload, 1) := sorry
theorem dL_law_835 : decode cL_law 835 = .ok (.invokevirtual 98, 3) := sorry
theorem dL_law_838 : decode cL_law 838 = .ok (.pop, 1) := sorry
theorem dL_law_839 : decode cL_law 839 = .ok (.goto 270, 3) := sorry
theorem dL_law_842 : decode cL_law 842 = .ok (.aload_n 1, 1) := sorry
theorem dL_law_843 : decode cL_law 843 = .ok (.aload_n 0, 1) := sorry
theorem dL_law_844 : decode cL_law 844 = .ok (.iload_n 3, 1) := sorry
theorem dL_law_845 : decode cL_law 845 = .ok (.iconst 1, 1) := sorry
theorem dL_law_846 : decode cL_law 846 = .ok (.iadd, 1) := sorry
theorem dL_law_847 : decode cL_law 847 = .ok (.iaload, 1) := sorry
theorem dL_law_848 : decode cL_law 848 = .ok (.aload_n 0, 1) := sorry
theorem dL_law_849 : decode cL_law 849 = .ok (.iload_n 3, 1) := sorry
theorem dL_law_850 : decode cL_law 850 = .ok (.iconst 2, 1) := sorry
theorem dL_law_851 : decode cL_law 851 = .ok (.iadd, 1) := sorry
theorem dL_law_852 : decode cL_law 852 = .ok (.iaload, 1) := sorry
theorem dL_law_853 : decode cL_law 853 = .ok (.invokevirtual 99, 3) := sorry
theorem dL_law_856 : decode cL_law 856 = .ok (.pop, 1) := sorry
theorem dL_law_857 : decode cL_law 857 = .ok (.aload_n 2, 1) := sorry
theorem dL_law_858 : decode cL_law 858 = .ok (.aload_n 0, 1) := sorry
theorem dL_law_859 : decode cL_law 859 = .ok (.iload_n 3, 1) := sorry
theorem dL_law_860 : decode cL_law 860 = .ok (.iconst 1, 1) := sorry
theorem dL_law_861 : decode cL_law 861 = .ok (.iadd, 1) := sorry
theorem dL_law_862 : decode cL_law 862 = .ok (.iaload, 1) := sorry
theorem dL_law_863 : decode cL_law 863 = .ok (.aload_n 0, 1) := sorry
theorem dL_law_864 : decode cL_law 864 = .ok (.iload_n 3, 1) := sorry
theorem dL_law_865 : decode cL_law 865 = .ok (.iconst 2, 1) := sorry
theorem dL_law_866 : decode cL_law 866 = .ok (.iadd, 1) := sorry
theorem dL_law_867 : decode cL_law 867 = .ok (.iaload, 1) := sorry
theorem dL_law_868 : decode cL_law 868 = .ok (.invokevirtual 102, 3) := sorry
theorem dL_law_871 : decode cL_law 871 = .ok (.pop, 1) := sorry
theorem dL_law_872 : decode cL_law 872 = .ok (.goto 237, 3) := sorry
theorem dL_law_875 : decode cL_law 875 = .ok (.aload_n 1, 1) := sorry
theorem dL_law_876 : decode cL_law 876 = .ok (.aload_n 0, 1) := sorry
theorem dL_law_877 : decode cL_law 877 = .ok (.iload_n 3, 1) := sorry
theorem dL_law_878 : decode cL_law 878 = .ok (.iconst 1, 1) := sorry
theorem dL_law_879 : decode cL_law 879 = .ok (.iadd, 1) := sorry
theorem dL_law_880 : decode cL_law 880 = .ok (.iaload, 1) := sorry
theorem dL_law_881 : decode cL_law 881 = .ok (.invokevirtual 103, 3) := sorry
theorem dL_law_884 : decode cL_law 884 = .ok (.pop, 1) := sorry
theorem dL_law_885 : decode cL_law 885 = .ok (.aload_n 2, 1) := sorry
theorem dL_law_886 : decode cL_law 886 = .ok (.aload_n 0, 1) := sorry
theorem dL_law_887 : decode cL_law 887 = .ok (.iload_n 3, 1) := sorry
theorem dL_law_888 : decode cL_law 888 = .ok (.iconst 1, 1) := sorry
theorem dL_law_889 : decode cL_law 889 = .ok (.iadd, 1) := sorry
theorem dL_law_890 : decode cL_law 890 = .ok (.iaload, 1) := sorry
theorem dL_law_891 : decode cL_law 891 = .ok (.invokevirtual 106, 3) := sorry
theorem dL_law_894 : decode cL_law 894 = .ok (.pop, 1) := sorry
theorem dL_law_895 : decode cL_law 895 = .ok (.goto 214, 3) := sorry
theorem dL_law_898 : decode cL_law 898 = .ok (.aload_n 1, 1) := sorry
theorem dL_law_899 : decode cL_law 899 = .ok (.aload_n 0, 1) := sorry
theorem dL_law_900 : decode cL_law 900 = .ok (.iload_n 3, 1) := sorry
theorem dL_law_901 : decode cL_law 901 = .ok (.iconst 1, 1) := sorry
theorem dL_law_902 : decode cL_law 902 = .ok (.iadd, 1) := sorry
theorem dL_law_903 : decode cL_law 903 = .ok (.iaload, 1) := sorry
theorem dL_law_904 : decode cL_law 904 = .ok (.invokevirtual 107, 3) := sorry
theorem dL_law_907 : decode cL_law 907 = .ok (.pop, 1) := sorry
theorem dL_law_908 : decode cL_law 908 = .ok (.aload_n 2, 1) := sorry
theorem dL_law_909 : decode cL_law 909 = .ok (.aload_n 0, 1) := sorry
theorem dL_law_910 : decode cL_law 910 = .ok (.iload_n 3, 1) := sorry
theorem dL_law_911 : decode cL_law 911 = .ok (.iconst 1, 1) := sorry
theorem dL_law_912 : decode cL_law 912 = .ok (.iadd, 1) := sorry
theorem dL_law_913 : decode cL_law 913 = .ok (.iaload, 1) := sorry
theorem dL_law_914 : decode cL_law 914 = .ok (.invokevirtual 110, 3) := sorry
theorem dL_law_917 : decode cL_law 917 = .ok (.pop, 1) := sorry
theorem dL_law_918 : decode cL_law 918 = .ok (.goto 191, 3) := sorry
theorem dL_law_921 : decode cL_law 921 = .ok (.aload_n 1, 1) := sorry
theorem dL_law_922 : decode cL_law 922 = .ok (.invokevirtual 111, 3) := sorry
theorem dL_law_925 : decode cL_law 925 = .ok (.pop, 1) := sorry
theorem dL_law_926 : decode cL_law 926 = .ok (.aload_n 2, 1) := sorry
theorem dL_law_927 : decode cL_law 927 = .ok (.invokevirtual 114, 3) := sorry
theorem dL_law_930 : decode cL_law 930 = .ok (.pop, 1) := sorry
theorem dL_law_931 : decode cL_law 931 = .ok (.goto 178, 3) := sorry
theorem dL_law_934 : decode cL_law 934 = .ok (.aload_n 1, 1) := sorry
theorem dL_law_935 : decode cL_law 935 = .ok (.aload_n 0, 1) := sorry
theorem dL_law_936 : decode cL_law 936 = .ok (.iload_n 3, 1) := sorry
theorem dL_law_937 : decode cL_law 937 = .ok (.iconst 1, 1) := sorry
theorem dL_law_938 : decode cL_law 938 = .ok (.iadd, 1) := sorry
theorem dL_law_939 : decode cL_law 939 = .ok (.iaload, 1) := sorry
theorem dL_law_940 : decode cL_law 940 = .ok (.invokevirtual 115, 3) := sorry
theorem dL_law_943 : decode cL_law 943 = .ok (.pop, 1) := sorry
theorem dL_law_944 : decode cL_law 944 = .ok (.aload_n 2, 1) := sorry
theorem dL_law_945 : decode cL_law 945 = .ok (.aload_n 0, 1) := sorry
theorem dL_law_946 : decode cL_law 946 = .ok (.iload_n 3, 1) := sorry
theorem dL_law_947 : decode cL_law 947 = .ok (.iconst 1, 1) := sorry
theorem dL_law_948 : decode cL_law 948 = .ok (.iadd, 1) := sorry
theorem dL_law_949 : decode cL_law 949 = .ok (.iaload, 1) := sorry
theorem dL_law_950 : decode cL_law 950 = .ok (.invokevirtual 118, 3) := sorry
theorem dL_law_953 : decode cL_law 953 = .ok (.pop, 1) := sorry
theorem dL_law_954 : decode cL_law 954 = .ok (.goto 155, 3) := sorry
theorem dL_law_957 : decode cL_law 957 = .ok (.aload_n 1, 1) := sorry
theorem dL_law_958 : decode cL_law 958 = .ok (.aload_n 0, 1) := sorry
theorem dL_law_959 : decode cL_law 959 = .ok (.iload_n 3, 1) := sorry
theorem dL_law_960 : decode cL_law 960 = .ok (.iconst 1, 1) := sorry
theorem dL_law_961 : decode cL_law 961 = .ok (.iadd, 1) := sorry
theorem dL_law_962 : decode cL_law 962 = .ok (.iaload, 1) := sorry
theorem dL_law_963 : decode cL_law 963 = .ok (.invokevirtual 119, 3) := sorry
theorem dL_law_966 : decode cL_law 966 = .ok (.pop, 1) := sorry
theorem dL_law_967 : decode cL_law 967 = .ok (.aload_n 2, 1) := sorry
theorem dL_law_968 : decode cL_law 968 = .ok (.aload_n 0, 1) := sorry
theorem dL_law_969 : decode cL_law 969 = .ok (.iload_n 3, 1) := sorry
theorem dL_law_970 : decode cL_law 970 = .ok (.iconst 1, 1) := sorry
theorem dL_law_971 : decode cL_law 971 = .ok (.iadd, 1) := sorry
theorem dL_law_972 : decode cL_law 972 = .ok (.iaload, 1) := sorry
theorem dL_law_973 : decode cL_law 973 = .ok (.invokevirtual 122, 3) := sorry
theorem dL_law_976 : decode cL_law 976 = .ok (.pop, 1) := sorry
theorem dL_law_977 : decode cL_law 977 = .ok (.goto 132, 3) := sorry
theorem dL_law_980 : decode cL_law 980 = .ok (.aload_n 1, 1) := sorry
theorem dL_law_981 : decode cL_law 981 = .ok (.invokevirtual 123, 3) := sorry
theorem dL_law_984 : decode cL_law 984 = .ok (.pop, 1) := sorry
theorem dL_law_985 : decode cL_law 985 = .ok (.aload_n 2, 1) := sorry
theorem dL_law_986 : decode cL_law 986 = .ok (.invokevirtual 126, 3) := sorry
theorem dL_law_989 : decode cL_law 989 = .ok (.pop, 1) := sorry
theorem dL_law_990 : decode cL_law 990 = .ok (.goto 119, 3) := sorry
theorem dL_law_993 : decode cL_law 993 = .ok (.aload_n 1, 1) := sorry
theorem dL_law_994 : decode cL_law 994 = .ok (.invokevirtual 127, 3) := sorry
theorem dL_law_997 : decode cL_law 997 = .ok (.pop, 1) := sorry
theorem dL_law_998 : decode cL_law 998 = .ok (.aload_n 2, 1) := sorry
theorem dL_law_999 : decode cL_law 999 = .ok (.invokevirtual 130, 3) := sorry
theorem dL_law_1002 : decode cL_law 1002 = .ok (.pop, 1) := sorry
theorem dL_law_1003 : decode cL_law 1003 = .ok (.goto 106, 3) := sorry
theorem dL_law_1006 : decode cL_law 1006 = .ok (.aload_n 1, 1) := sorry
theorem dL_law_1007 : decode cL_law 1007 = .ok (.aload_n 0, 1) := sorry
theorem dL_law_1008 : decode cL_law 1008 = .ok (.iload_n 3, 1) := sorry
theorem dL_law_1009 : decode cL_law 1009 = .ok (.iconst 1, 1) := sorry
theorem dL_law_1010 : decode cL_law 1010 = .ok (.iadd, 1) := sorry
theorem dL_law_1011 : decode cL_law 1011 = .ok (.iaload, 1) := sorry
theorem dL_law_1012 : decode cL_law 1012 = .ok (.aload_n 0, 1) := sorry
theorem dL_law_1013 : decode cL_law 1013 = .ok (.iload_n 3, 1) := sorry
theorem dL_law_1014 : decode cL_law 1014 = .ok (.iconst 2, 1) := sorry
theorem dL_law_1015 : decode cL_law 1015 = .ok (.iadd, 1) := sorry
theorem dL_law_1016 : decode cL_law 1016 = .ok (.iaload, 1) := sorry
theorem dL_law_1017 : decode cL_law 1017 = .ok (.invokevirtual 131, 3) := sorry
theorem dL_law_1020 : decode cL_law 1020 = .ok (.pop, 1) := sorry
theorem dL_law_1021 : decode cL_law 1021 = .ok (.aload_n 2, 1) := sorry
theorem dL_law_1022 : decode cL_law 1022 = .ok (.aload_n 0, 1) := sorry
theorem dL_law_1023 : decode cL_law 1023 = .ok (.iload_n 3, 1) := sorry
theorem dL_law_1024 : decode cL_law 1024 = .ok (.iconst 1, 1) := sorry
theorem dL_law_1025 : decode cL_law 1025 = .ok (.iadd, 1) := sorry
theorem dL_law_1026 : decode cL_law 1026 = .ok (.iaload, 1) := sorry
theorem dL_law_1027 : decode cL_law 1027 = .ok (.aload_n 0, 1) := sorry
theorem dL_law_1028 : decode cL_law 1028 = .ok (.iload_n 3, 1) := sorry
theorem dL_law_1029 : decode cL_law 1029 = .ok (.iconst 2, 1) := sorry
theorem dL_law_1030 : decode cL_law 1030 = .ok (.iadd, 1) := sorry
theorem dL_law_1031 : decode cL_law 1031 = .ok (.iaload, 1) := sorry
theorem dL_law_1032 : decode cL_law 1032 = .ok (.invokevirtual 134, 3) := sorry
theorem dL_law_1035 : decode cL_law 1035 = .ok (.pop, 1) := sorry
theorem dL_law_1036 : decode cL_law 1036 = .ok (.goto 73, 3) := sorry
theorem dL_law_1039 : decode cL_law 1039 = .ok (.aload_n 1, 1) := sorry
theorem dL_law_1040 : decode cL_law 1040 = .ok (.aload_n 0, 1) := sorry
theorem dL_law_1041 : decode cL_law 1041 = .ok (.iload_n 3, 1) := sorry
theorem dL_law_1042 : decode cL_law 1042 = .ok (.iconst 1, 1) := sorry
theorem dL_law_1043 : decode cL_law 1043 = .ok (.iadd, 1) := sorry
theorem dL_law_1044 : decode cL_law 1044 = .ok (.iaload, 1) := sorry
theorem dL_law_1045 : decode cL_law 1045 = .ok (.invokevirtual 135, 3) := sorry
theorem dL_law_1048 : decode cL_law 1048 = .ok (.pop, 1) := sorry
theorem dL_law_1049 : decode cL_law 1049 = .ok (.aload_n 2, 1) := sorry
theorem dL_law_1050 : decode cL_law 1050 = .ok (.aload_n 0, 1) := sorry
theorem dL_law_1051 : decode cL_law 1051 = .ok (.iload_n 3, 1) := sorry
theorem dL_law_1052 : decode cL_law 1052 = .ok (.iconst 1, 1) := sorry
theorem dL_law_1053 : decode cL_law 1053 = .ok (.iadd, 1) := sorry
theorem dL_law_1054 : decode cL_law 1054 = .ok (.iaload, 1) := sorry
theorem dL_law_1055 : decode cL_law 1055 = .ok (.invokevirtual 138, 3) := sorry
theorem dL_law_1058 : decode cL_law 1058 = .ok (.pop, 1) := sorry
theorem dL_law_1059 : decode cL_law 1059 = .ok (.goto 50, 3) := sorry
theorem dL_law_1062 : decode cL_law 1062 = .ok (.aload_n 1, 1) := sorry
theorem dL_law_1063 : decode cL_law 1063 = .ok (.aload_n 0, 1) := sorry
theorem dL_law_1064 : decode cL_law 1064 = .ok (.iload_n 3, 1) := sorry
theorem dL_law_1065 : decode cL_law 1065 = .ok (.iconst 1, 1) := sorry
theorem dL_law_1066 : decode cL_law 1066 = .ok (.iadd, 1) := sorry
theorem dL_law_1067 : decode cL_law 1067 = .ok (.iaload, 1) := sorry
theorem dL_law_1068 : decode cL_law 1068 = .ok (.invokevirtual 139, 3) := sorry
theorem dL_law_1071 : decode cL_law 1071 = .ok (.pop, 1) := sorry
theorem dL_law_1072 : decode cL_law 1072 = .ok (.aload_n 2, 1) := sorry
theorem dL_law_1073 : decode cL_law 1073 = .ok (.aload_n 0, 1) := sorry
theorem dL_law_1074 : decode cL_law 1074 = .ok (.iload_n 3, 1) := sorry
theorem dL_law_1075 : decode cL_law 1075 = .ok (.iconst 1, 1) := sorry
theorem dL_law_1076 : decode cL_law 1076 = .ok (.iadd, 1) := sorry
theorem dL_law_1077 : decode cL_law 1077 = .ok (.iaload, 1) := sorry
theorem dL_law_1078 : decode cL_law 1078 = .ok (.invokevirtual 142, 3) := sorry
theorem dL_law_1081 : decode cL_law 1081 = .ok (.pop, 1) := sorry
theorem dL_law_1082 : decode cL_law 1082 = .ok (.goto 27, 3) := sorry
theorem dL_law_1085 : decode cL_law 1085 = .ok (.aload_n 1, 1) := sorry
theorem dL_law_1086 : decode cL_law 1086 = .ok (.invokevirtual 143, 3) := sorry
theorem dL_law_1089 : decode cL_law 1089 = .ok (.aload_n 2, 1) := sorry
theorem dL_law_1090 : decode cL_law 1090 = .ok (.invokevirtual 146, 3) := sorry
theorem dL_law_1093 : decode cL_law 1093 = .ok (.goto 16, 3) := sorry
theorem dL_law_1096 : decode cL_law 1096 = .ok (.aload_n 1, 1) := sorry
theorem dL_law_1097 : decode cL_law 1097 = .ok (.invokestatic 147, 3) := sorry
theorem dL_law_1100 : decode cL_law 1100 = .ok (.istore 4, 2) := sorry
theorem dL_law_1102 : decode cL_law 1102 = .ok (.aload_n 2, 1) := sorry
theorem dL_law_1103 : decode cL_law 1103 = .ok (.invokevirtual 152, 3) := sorry
theorem dL_law_1106 : decode cL_law 1106 = .ok (.goto 3, 3) := sorry
theorem dL_law_1109 : decode cL_law 1109 = .ok (.iinc 3 7, 3) := sorry
theorem dL_law_1112 : decode cL_law 1112 = .ok (.goto (-1094), 3) := sorry
theorem dL_law_1115 : decode cL_law 1115 = .ok (.iconst 1, 1) := sorry
theorem dL_law_1116 : decode cL_law 1116 = .ok (.ireturn, 1) := sorry
set_option maxRecDepth 20000 in
theorem ggL_law_X10_init : GoodIn wsL_law wsX10_init := goodIn_r _ [8, 9, 10, 11, 12, 13, 14, 15, 16, 17, 18, 19, 20, 21, 22, 23, 24, 25, 26, 27, 28, 29, 30, 31, 32, 33, 34, 35, 36, 37, 38, 39, 40, 41, 42, 43, 44, 45, 46, 47, 48, 49, 50, 51, 52, 53, 54, 55, 56, 57, 58, 59, 60, 61, 62, 63, 64, 65, 66, 67, 68, 69, 70, 71, 72, 73, 74, 75, 76, 77, 78, 79, 80, 81, 82, 83, 84, 85, 86, 87, 88, 89, 90, 91, 92, 93, 94, 95, 96, 97, 98, 99, 100, 101, 102, 103, 104, 105, 106, 107, 108, 109, 110, 111, 112, 113, 114, 115, 116, 117, 118, 119, 120, 121, 122, 123, 124, 125, 126, 127, 128, 129, 130, 131, 132, 133, 134, 135, 136, 137, 138, 1077, 1078, 1079, 1053, 1054, 1055, 1056, 1057, 1058, 1059, 1060, 1080, 1081, 1082, 1083, 1084, 1085, 1086, 1087, 1088, 1089, 1090, 1091, 1092, 1093, 1094, 1095, 1096, 1097, 1098, 1099, 1100, 1101, 1102, 1103, 1104, 1105, 1106, 1107, 1108, 1109, 1110, 1111, 1112, 1113, 1114, 1115, 1116, 1117, 1118, 1119] (sorry) (sorry)
set_option maxRecDepth 20000 in
theorem gL_law_X10_init : GoodIn wsL_law (wsX10_init) := ggL_law_X10_init
set_option maxRecDepth 20000 in
theorem ggL_law_X11_init : GoodIn wsL_law wsX11_init := goodIn_r _ [141, 142, 10, 11, 55, 143, 144, 145, 146, 147, 148, 149, 150, 151, 152, 5, 153, 154, 155, 156, 157, 158, 159, 160, 161, 162, 163, 164, 165, 166, 167, 168, 169, 1061, 1062, 1063, 1064, 1065, 1066, 1067, 1068, 1069, 1070, 1071, 1072, 1073, 1074, 1075, 1076] (sorry) (sorry)
set_option maxRecDepth 20000 in
theorem gL_law_X11_init : GoodIn wsL_law (wsX11_init) := ggL_law_X11_init
set_option maxRecDepth 20000 in
theorem ggL_law_X10_way : GoodIn wsL_law wsX10_way := goodIn_r _ [173, 15, 174, 175, 2, 176, 111, 112, 113, 14, 114, 43, 47, 51, 115, 116, 117, 42, 118, 119, 120, 121, 122, 46, 123, 64, 124, 125, 126, 127, 128, 129, 130, 50, 131, 132, 133, 134, 135, 136, 137, 56, 57, 58, 60, 1053, 1054, 1055, 1056, 1057, 1058, 1059, 1060, 1077, 1078, 1079, 1096, 1097, 1098, 1099, 1100, 1101, 1102, 1103, 1104, 1105, 1106, 1107, 1108, 1109, 1110] (sorry) (sorry)
set_option maxRecDepth 20000 in
theorem gL_law_X10_way : GoodIn wsL_law (wsV RL 18 RX10 yX10_way wsX10_way) := goodIn_app (goodIn_of _ (sorry)) ggL_law_X10_way
set_option maxRecDepth 20000 in
theorem ggL_law_X11_way : GoodIn wsL_law wsX11_way := goodIn_r _ [180, 181, 182, 183, 5, 184, 150, 151, 152, 153, 143, 154, 155, 156, 157, 158, 159, 160, 161, 162, 163, 164, 165, 166, 167, 168, 169, 1061, 1062, 1063, 1064, 1065, 1066, 1067, 1068, 1069, 1070, 1071, 1072, 1073, 1074, 1075, 1076] (sorry) (sorry)
set_option maxRecDepth 20000 in
theorem gL_law_X11_way : GoodIn wsL_law (wsV RL 22 RX11 yX11_way wsX11_way) := goodIn_app (goodIn_of _ (sorry)) ggL_law_X11_way
set_option maxRecDepth 20000 in
theorem ggL_law_X10_mat : GoodIn wsL_law wsX10_mat := goodIn_r _ [188, 15, 189, 174, 175, 2, 176, 190, 191, 192, 42, 193, 119, 194, 195, 196, 197, 56, 198, 199, 200, 201, 138, 135, 136, 137, 57, 58, 60, 1053, 1054, 1055, 1056, 1057, 1058, 1059, 1060, 1077, 1078, 1079, 1096, 1097, 1098, 1099, 1100] (sorry) (sorry)
set_option maxRecDepth 20000 in
theorem gL_law_X10_mat : GoodIn wsL_law (wsV RL 23 RX10 yX10_mat wsX10_mat) := goodIn_app (goodIn_of _ (sorry)) ggL_law_X10_mat
set_option maxRecDepth 20000 in
theorem ggL_law_X11_mat : GoodIn wsL_law wsX11_mat := goodIn_r _ [205, 181, 206, 158, 159, 160, 5, 161, 143, 207, 208, 209, 210, 182, 183, 184, 154, 155, 156, 157, 162, 163, 164, 165, 166, 167, 168, 169, 1061, 1062, 1063, 1064, 1065, 1066, 1067, 1068, 1069, 1070, 1071, 1072, 1073, 1074, 1075, 1076] (sorry) (sorry)
set_option maxRecDepth 20000 in
theorem gL_law_X11_mat : GoodIn wsL_law (wsV RL 27 RX11 yX11_mat wsX11_mat) := goodIn_app (goodIn_of _ (sorry)) ggL_law_X11_mat
set_option maxRecDepth 20000 in
theorem ggL_law_X10_runner : GoodIn wsL_law wsX10_runner := goodIn_r _ [214, 15, 174, 175, 2, 176, 215, 216, 217, 50, 218, 132, 68, 69, 70, 71, 72, 73, 1053, 1054, 1055, 1056, 1057, 1058, 1059, 1060, 1077, 1078, 1079, 1102, 1103, 1104, 1105, 1106, 1107, 1108, 1109, 1110] (sorry) (sorry)
set_option maxRecDepth 20000 in
theorem gL_law_X10_runner : GoodIn wsL_law (wsV RL 28 RX10 yX10_runner wsX10_runner) := goodIn_app (goodIn_of _ (sorry)) ggL_law_X10_runner
set_option maxRecDepth 20000 in
theorem ggL_law_X11_runner : GoodIn wsL_law wsX11_runner := goodIn_r _ [222, 181, 55, 143, 162, 163, 164, 5, 165, 182, 183, 184, 166, 167, 168, 169, 1061, 1062, 1063, 1064, 1065, 1066, 1067, 1068, 1069, 1070, 1071, 1072, 1073, 1074, 1075, 1076] (sorry) (sorry)
set_option maxRecDepth 20000 in
theorem gL_law_X11_runner : GoodIn wsL_law (wsV RL 32 RX11 yX11_runner wsX11_runner) := goodIn_app (goodIn_of _ (sorry)) ggL_law_X11_runner
set_option maxRecDepth 20000 in
theorem ggL_law_X10_gun : GoodIn wsL_law wsX10_gun := goodIn_r _ [226, 15, 227, 228, 2, 229, 230, 174, 175, 176, 231, 232, 233, 46, 234, 64, 1053, 1054, 1055, 1056, 1057, 1058, 1059, 1060, 1077, 1078, 1079, 1101] (sorry) (sorry)
set_option maxRecDepth 20000 in
theorem gL_law_X10_gun : GoodIn wsL_law (wsV RL 33 RX10 yX10_gun wsX10_gun) := goodIn_app (goodIn_of _ (sorry)) ggL_law_X10_gun
set_option maxRecDepth 20000 in
theorem ggL_law_X11_gun : GoodIn wsL_law wsX11_gun := goodIn_r _ [238, 181, 239, 143, 182, 183, 5, 184, 1061, 1062, 1063, 1064, 1065, 1066, 1067, 1068, 1069, 1070, 1071, 1072, 1073, 1074, 1075, 1076] (sorry) (sorry)
set_option maxRecDepth 20000 in
theorem gL_law_X11_gun : GoodIn wsL_law (wsV RL 37 RX11 yX11_gun wsX11_gun) := goodIn_app (goodIn_of _ (sorry)) ggL_law_X11_gun
set_option maxRecDepth 20000 in
theorem ggL_law_X10_saw : GoodIn wsL_law wsX10_saw := goodIn_r _ [243, 15, 230, 244, 245, 246, 14, 247, 51, 43, 248, 249, 250, 50, 251, 132, 252, 199, 200, 42, 201, 119, 174, 175, 2, 176, 253, 254, 255, 256, 60, 198, 257, 258, 259, 260, 261, 262, 263, 264, 70, 265, 266, 267, 268, 269, 69, 1053, 1054, 1055, 1056, 1057, 1058, 1059, 1060, 1077, 1078, 1079, 1102, 1103, 1104, 1105, 1106, 1107, 1108, 1109, 1110, 1096, 1097, 1098, 1099, 1100] (sorry) (sorry)
set_option maxRecDepth 20000 in
theorem gL_law_X10_saw : GoodIn wsL_law (wsV RL 38 RX10 yX10_saw wsX10_saw) := goodIn_app (goodIn_of _ (sorry)) ggL_law_X10_saw
set_option maxRecDepth 20000 in
theorem ggL_law_X11_saw : GoodIn wsL_law wsX11_saw := goodIn_r _ [273, 239, 274, 275, 276, 5, 277, 181, 162, 163, 164, 165, 143, 278, 279, 280, 281, 158, 159, 160, 161, 182, 183, 184, 207, 208, 209, 210, 282, 283, 284, 285, 286, 287, 288, 289, 166, 167, 168, 169, 1061, 1062, 1063, 1064, 1065, 1066, 1067, 1068, 1069, 1070, 1071, 1072, 1073, 1074, 1075, 1076] (sorry) (sorry)
set_option maxRecDepth 20000 in
theorem gL_law_X11_saw : GoodIn wsL_law (wsV RL 42 RX11 yX11_saw wsX11_saw) := goodIn_app (goodIn_of _ (sorry)) ggL_law_X11_saw
set_option maxRecDepth 20000 in
theorem ggL_law_X10_dead : GoodIn wsL_law wsX10_dead := goodIn_r _ [293, 15, 294, 295, 296, 42, 297, 60, 198, 199, 200, 201, 119, 1053, 1054, 1055, 1056, 1057, 1058, 1059, 1060, 1077, 1078, 1079, 1096, 1097, 1098, 1099, 1100] (sorry) (sorry)
set_option maxRecDepth 20000 in
theorem gL_law_X10_dead : GoodIn wsL_law (wsV RL 43 RX10 yX10_dead wsX10_dead) := goodIn_app (goodIn_of _ (sorry)) ggL_law_X10_dead
set_option maxRecDepth 20000 in
theorem ggL_law_X11_dead : GoodIn wsL_law wsX11_dead := goodIn_r _ [301, 181, 143, 278, 279, 280, 5, 281, 158, 159, 160, 161, 1061, 1062, 1063, 1064, 1065, 1066, 1067, 1068, 1069, 1070, 1071, 1072, 1073, 1074, 1075, 1076] (sorry) (sorry)
set_option maxRecDepth 20000 in
theorem gL_law_X11_dead : GoodIn wsL_law (wsV RL 47 RX11 yX11_dead wsX11_dead) := goodIn_app (goodIn_of _ (sorry)) ggL_law_X11_dead
set_option maxRecDepth 20000 in
theorem ggL_law_X10_tear : GoodIn wsL_law wsX10_tear := goodIn_r _ [305, 15, 306, 199, 200, 42, 201, 119, 307, 308, 309, 50, 310, 70, 69, 265, 249, 250, 251, 132, 175, 2, 176, 311, 258, 259, 260, 261, 262, 263, 264, 1053, 1054, 1055, 1056, 1057, 1058, 1059, 1060, 1077, 1078, 1079, 1096, 1097, 1098, 1099, 1100, 1102, 1103, 1104, 1105, 1106, 1107, 1108, 1109, 1110] (sorry) (sorry)
set_option maxRecDepth 20000 in
theorem gL_law_X10_tear : GoodIn wsL_law (wsV RL 48 RX10 yX10_tear wsX10_tear) := goodIn_app (goodIn_of _ (sorry)) ggL_law_X10_tear
set_option maxRecDepth 20000 in
theorem ggL_law_X11_tear : GoodIn wsL_law wsX11_tear := goodIn_r _ [315, 274, 275, 276, 5, 277, 181, 162, 163, 164, 165, 143, 278, 279, 280, 281, 158, 159, 160, 161, 282, 283, 284, 285, 286, 287, 288, 289, 166, 167, 168, 169, 1061, 1062, 1063, 1064, 1065, 1066, 1067, 1068, 1069, 1070, 1071, 1072, 1073, 1074, 1075, 1076] (sorry) (sorry)
set_option maxRecDepth 20000 in
theorem gL_law_X11_tear : GoodIn wsL_law (wsV RL 51 RX11 yX11_tear wsX11_tear) := goodIn_app (goodIn_of _ (sorry)) ggL_law_X11_tear
set_option maxRecDepth 20000 in
theorem ggL_law_X10_drop : GoodIn wsL_law wsX10_drop := goodIn_r _ [319, 15, 320, 321, 322, 50, 323, 71, 265, 249, 250, 251, 132, 1053, 1054, 1055, 1056, 1057, 1058, 1059, 1060, 1077, 1078, 1079, 1102, 1103, 1104, 1105, 1106, 1107, 1108, 1109, 1110] (sorry) (sorry)
set_option maxRecDepth 20000 in
theorem gL_law_X10_drop : GoodIn wsL_law (wsV RL 52 RX10 yX10_drop wsX10_drop) := goodIn_app (goodIn_of _ (sorry)) ggL_law_X10_drop
set_option maxRecDepth 20000 in
theorem ggL_law_X11_drop : GoodIn wsL_law wsX11_drop := goodIn_r _ [327, 274, 275, 276, 5, 277, 181, 162, 163, 164, 165, 143, 166, 167, 168, 169, 1061, 1062, 1063, 1064, 1065, 1066, 1067, 1068, 1069, 1070, 1071, 1072, 1073, 1074, 1075, 1076] (sorry) (sorry)
set_option maxRecDepth 20000 in
theorem gL_law_X11_drop : GoodIn wsL_law (wsV RL 55 RX11 yX11_drop wsX11_drop) := goodIn_app (goodIn_of _ (sorry)) ggL_law_X11_drop
set_option maxRecDepth 20000 in
theorem ggL_law_X10_cut : GoodIn wsL_law wsX10_cut := goodIn_r _ [331, 15, 227, 228, 2, 229, 230, 174, 175, 176, 332, 333, 334, 42, 335, 58, 198, 199, 200, 201, 119, 1053, 1054, 1055, 1056, 1057, 1058, 1059, 1060, 1077, 1078, 1079, 1096, 1097, 1098, 1099, 1100] (sorry) (sorry)
set_option maxRecDepth 20000 in
theorem gL_law_X10_cut : GoodIn wsL_law (wsV RL 56 RX10 yX10_cut wsX10_cut) := goodIn_app (goodIn_of _ (sorry)) ggL_law_X10_cut
set_option maxRecDepth 20000 in
theorem ggL_law_X11_cut : GoodIn wsL_law wsX11_cut := goodIn_r _ [339, 181, 239, 143, 278, 279, 280, 5, 281, 158, 159, 160, 161, 182, 183, 184, 1061, 1062, 1063, 1064, 1065, 1066, 1067, 1068, 1069, 1070, 1071, 1072, 1073, 1074, 1075, 1076] (sorry) (sorry)
set_option maxRecDepth 20000 in
theorem gL_law_X11_cut : GoodIn wsL_law (wsV RL 59 RX11 yX11_cut wsX11_cut) := goodIn_app (goodIn_of _ (sorry)) ggL_law_X11_cut
set_option maxRecDepth 20000 in
theorem ggL_law_X10_wave : GoodIn wsL_law wsX10_wave := goodIn_r _ [343, 15, 344, 345, 346, 50, 347, 72, 265, 249, 250, 251, 132, 1053, 1054, 1055, 1056, 1057, 1058, 1059, 1060, 1077, 1078, 1079, 1102, 1103, 1104, 1105, 1106, 1107, 1108, 1109, 1110] (sorry) (sorry)
set_option maxRecDepth 20000 in
theorem gL_law_X10_wave : GoodIn wsL_law (wsV RL 60 RX10 yX10_wave wsX10_wave) := goodIn_app (goodIn_of _ (sorry)) ggL_law_X10_wave
set_option maxRecDepth 20000 in
theorem ggL_law_X11_wave : GoodIn wsL_law wsX11_wave := goodIn_r _ [351, 274, 275, 276, 5, 277, 181, 162, 163, 164, 165, 143, 166, 167, 168, 169, 1061, 1062, 1063, 1064, 1065, 1066, 1067, 1068, 1069, 1070, 1071, 1072, 1073, 1074, 1075, 1076] (sorry) (sorry)
set_option maxRecDepth 20000 in
theorem gL_law_X11_wave : GoodIn wsL_law (wsV RL 63 RX11 yX11_wave wsX11_wave) := goodIn_app (goodIn_of _ (sorry)) ggL_law_X11_wave
set_option maxRecDepth 20000 in
theorem ggL_law_X10_strike : GoodIn wsL_law wsX10_strike := goodIn_r _ [355, 15, 356, 357, 358, 50, 359, 73, 133, 74, 265, 249, 250, 251, 132, 175, 2, 176, 1053, 1054, 1055, 1056, 1057, 1058, 1059, 1060, 1077, 1078, 1079, 1102, 1103, 1104, 1105, 1106, 1107, 1108, 1109, 1110] (sorry) (sorry)
set_option maxRecDepth 20000 in
theorem gL_law_X10_strike : GoodIn wsL_law (wsV RL 64 RX10 yX10_strike wsX10_strike) := goodIn_app (goodIn_of _ (sorry)) ggL_law_X10_strike
set_option maxRecDepth 20000 in
theorem ggL_law_X11_strike : GoodIn wsL_law wsX11_strike := goodIn_r _ [363, 143, 274, 275, 276, 5, 277, 181, 162, 163, 164, 165, 286, 287, 288, 289, 166, 167, 168, 169, 1061, 1062, 1063, 1064, 1065, 1066, 1067, 1068, 1069, 1070, 1071, 1072, 1073, 1074, 1075, 1076] (sorry) (sorry)
set_option maxRecDepth 20000 in
theorem gL_law_X11_strike : GoodIn wsL_law (wsV RL 67 RX11 yX11_strike wsX11_strike) := goodIn_app (goodIn_of _ (sorry)) ggL_law_X11_strike
set_option maxRecDepth 20000 in
theorem ggL_law_X10_pardon : GoodIn wsL_law wsX10_pardon := goodIn_r _ [367, 15, 368, 369, 370, 50, 371, 133, 74, 73, 175, 2, 176, 265, 249, 250, 251, 132, 1053, 1054, 1055, 1056, 1057, 1058, 1059, 1060, 1077, 1078, 1079, 1102, 1103, 1104, 1105, 1106, 1107, 1108, 1109, 1110] (sorry) (sorry)
set_option maxRecDepth 20000 in
theorem gL_law_X10_pardon : GoodIn wsL_law (wsV RL 68 RX10 yX10_pardon wsX10_pardon) := goodIn_app (goodIn_of _ (sorry)) ggL_law_X10_pardon
set_option maxRecDepth 20000 in
theorem ggL_law_X11_pardon : GoodIn wsL_law wsX11_pardon := goodIn_r _ [375, 181, 143, 166, 167, 168, 5, 169, 1061, 1062, 1063, 1064, 1065, 1066, 1067, 1068, 1069, 1070, 1071, 1072, 1073, 1074, 1075, 1076] (sorry) (sorry)
set_option maxRecDepth 20000 in
theorem gL_law_X11_pardon : GoodIn wsL_law (wsV RL 72 RX11 yX11_pardon wsX11_pardon) := goodIn_app (goodIn_of _ (sorry)) ggL_law_X11_pardon
set_option maxRecDepth 20000 in
theorem ggL_law_X10_told : GoodIn wsL_law wsX10_told := goodIn_r _ [379, 15, 380, 381, 382, 14, 383, 51, 175, 2, 176, 384, 385, 386, 50, 387, 132, 68, 248, 249, 250, 251, 388, 389, 390, 391, 43, 392, 393, 394, 395, 73, 265, 396, 397, 398, 399, 71, 400, 401, 402, 403, 404, 405, 406, 407, 72, 408, 409, 410, 42, 411, 119, 412, 413, 414, 415, 58, 198, 199, 200, 201, 416, 417, 418, 419, 69, 420, 421, 422, 423, 424, 425, 426, 427, 428, 429, 430, 431, 47, 432, 433, 434, 46, 435, 64, 436, 437, 438, 439, 440, 441, 442, 443, 444, 445, 446, 447, 448, 449, 450, 451, 452, 195, 196, 197, 56, 453, 454, 455, 262, 263, 264, 70, 1053, 1054, 1055, 1056, 1057, 1058, 1059, 1060, 1077, 1078, 1079, 1102, 1103, 1104, 1105, 1106, 1107, 1108, 1109, 1110, 1096, 1097, 1098, 1099, 1100, 1101] (sorry) (sorry)
set_option maxRecDepth 20000 in
theorem gL_law_X10_told : GoodIn wsL_law (wsV RL 73 RX10 yX10_told wsX10_told) := goodIn_app (goodIn_of _ (sorry)) ggL_law_X10_told
set_option maxRecDepth 20000 in
theorem ggL_law_X11_told : GoodIn wsL_law wsX11_told := goodIn_r _ [459, 274, 275, 276, 5, 277, 181, 162, 163, 164, 165, 143, 286, 287, 288, 289, 460, 461, 462, 463, 464, 465, 466, 467, 158, 159, 160, 161, 207, 208, 209, 210, 468, 469, 470, 471, 472, 473, 474, 475, 476, 477, 478, 479, 480, 481, 482, 483, 484, 485, 486, 487, 488, 489, 490, 491, 492, 493, 494, 495, 496, 497, 498, 499, 1061, 1062, 1063, 1064, 1065, 1066, 1067, 1068, 1069, 1070, 1071, 1072, 1073, 1074, 1075, 1076] (sorry) (sorry)
set_option maxRecDepth 20000 in
theorem gL_law_X11_told : GoodIn wsL_law (wsV RL 76 RX11 yX11_told wsX11_told) := goodIn_app (goodIn_of _ (sorry)) ggL_law_X11_told
set_option maxRecDepth 20000 in
theorem ggL_law_X10_split : GoodIn wsL_law wsX10_split := goodIn_r _ [503, 15, 244, 245, 246, 14, 247, 51, 43, 248, 249, 250, 50, 251, 132, 252, 199, 200, 42, 201, 119, 504, 417, 418, 419, 69, 265, 1053, 1054, 1055, 1056, 1057, 1058, 1059, 1060, 1077, 1078, 1079, 1102, 1103, 1104, 1105, 1106, 1107, 1108, 1109, 1110, 1096, 1097, 1098, 1099, 1100] (sorry) (sorry)
set_option maxRecDepth 20000 in
theorem gL_law_X10_split : GoodIn wsL_law (wsV RL 77 RX10 yX10_split wsX10_split) := goodIn_app (goodIn_of _ (sorry)) ggL_law_X10_split
set_option maxRecDepth 20000 in
theorem ggL_law_X11_split : GoodIn wsL_law wsX11_split := goodIn_r _ [508, 274, 275, 276, 5, 277, 181, 162, 163, 164, 165, 143, 278, 279, 280, 281, 158, 159, 160, 161, 468, 469, 470, 471, 286, 287, 288, 289, 1061, 1062, 1063, 1064, 1065, 1066, 1067, 1068, 1069, 1070, 1071, 1072, 1073, 1074, 1075, 1076] (sorry) (sorry)
set_option maxRecDepth 20000 in
theorem gL_law_X11_split : GoodIn wsL_law (wsV RL 80 RX11 yX11_split wsX11_split) := goodIn_app (goodIn_of _ (sorry)) ggL_law_X11_split
set_option maxRecDepth 20000 in
theorem ggL_law_X10_guess : GoodIn wsL_law wsX10_guess := goodIn_r _ [512, 15, 20, 244, 245, 246, 14, 247, 51, 43, 248, 249, 250, 50, 251, 132, 252, 199, 200, 42, 201, 119, 513, 514, 515, 19, 516, 517, 518, 519, 78, 79, 520, 385, 386, 387, 68, 521, 2, 522, 523, 524, 525, 409, 410, 411, 526, 425, 426, 427, 416, 417, 418, 419, 69, 265, 428, 429, 430, 431, 47, 384, 432, 433, 434, 46, 435, 64, 527, 528, 195, 196, 197, 56, 198, 529, 530, 531, 532, 533, 534, 535, 536, 537, 538, 539, 540, 541, 542, 543, 544, 545, 546, 547, 548, 549, 550, 551, 552, 553, 554, 555, 556, 557, 558, 559, 453, 454, 560, 561, 562, 563, 564, 565, 566, 567, 568, 569, 570, 571, 572, 573, 1053, 1054, 1055, 1056, 1057, 1058, 1059, 1060, 1077, 1078, 1079, 1102, 1103, 1104, 1105, 1106, 1107, 1108, 1109, 1110, 1096, 1097, 1098, 1099, 1100, 1080, 1081, 1082, 1083, 1084, 1101] (sorry) (sorry)
set_option maxRecDepth 20000 in
theorem gL_law_X10_guess : GoodIn wsL_law (wsV RL 81 RX10 yX10_guess wsX10_guess) := goodIn_app (goodIn_of _ (sorry)) ggL_law_X10_guess
set_option maxRecDepth 20000 in
theorem ggL_law_X11_guess : GoodIn wsL_law wsX11_guess := goodIn_r _ [577, 274, 275, 276, 5, 277, 181, 162, 163, 164, 165, 143, 278, 279, 280, 281, 158, 159, 160, 161, 578, 579, 580, 581, 582, 583, 584, 534, 535, 536, 585, 538, 539, 480, 481, 482, 483, 472, 473, 474, 475, 468, 469, 470, 471, 286, 287, 288, 289, 476, 477, 478, 479, 207, 208, 209, 210, 496, 497, 498, 499, 586, 587, 588, 589, 1061, 1062, 1063, 1064, 1065, 1066, 1067, 1068, 1069, 1070, 1071, 1072, 1073, 1074, 1075, 1076] (sorry) (sorry)
set_option maxRecDepth 20000 in
theorem gL_law_X11_guess : GoodIn wsL_law (wsV RL 85 RX11 yX11_guess wsX11_guess) := goodIn_app (goodIn_of _ (sorry)) ggL_law_X11_guess
set_option maxRecDepth 20000 in
theorem ggL_law_X10_doubt : GoodIn wsL_law wsX10_doubt := goodIn_r _ [593, 24, 15, 20, 594, 595, 596, 23, 597, 598, 599, 600, 601, 50, 602, 132, 603, 514, 515, 19, 516, 517, 518, 519, 78, 79, 520, 385, 386, 387, 68, 521, 2, 522, 523, 524, 525, 409, 410, 42, 411, 119, 526, 425, 426, 14, 427, 51, 416, 417, 418, 419, 69, 265, 249, 250, 251, 428, 429, 430, 431, 47, 384, 432, 433, 434, 46, 435, 64, 527, 528, 195, 196, 197, 56, 198, 199, 200, 201, 604, 605, 606, 607, 608, 609, 545, 546, 547, 548, 549, 550, 551, 610, 561, 562, 563, 544, 611, 612, 613, 614, 83, 615, 616, 617, 618, 540, 541, 542, 543, 564, 565, 566, 567, 556, 557, 558, 559, 568, 569, 619, 571, 572, 573, 537, 538, 535, 539, 560, 552, 553, 554, 555, 453, 454, 620, 530, 531, 532, 533, 534, 536, 621, 622, 623, 624, 1053, 1054, 1055, 1056, 1057, 1058, 1059, 1060, 1085, 1086, 1077, 1078, 1079, 1102, 1103, 1104, 1105, 1106, 1107, 1108, 1109, 1110, 1080, 1081, 1082, 1083, 1084, 1096, 1097, 1098, 1099, 1100, 1101] (sorry) (sorry)
set_option maxRecDepth 20000 in
theorem gL_law_X10_doubt : GoodIn wsL_law (wsV RL 86 RX10 yX10_doubt wsX10_doubt) := goodIn_app (goodIn_of _ (sorry)) ggL_law_X10_doubt
set_option maxRecDepth 20000 in
theorem ggL_law_X11_doubt : GoodIn wsL_law wsX11_doubt := goodIn_r _ [628, 181, 629, 630, 631, 5, 632, 162, 163, 164, 165, 143, 158, 159, 160, 161, 633, 634, 635, 636, 582, 480, 481, 482, 483, 472, 473, 474, 475, 468, 469, 470, 471, 286, 287, 288, 289, 476, 477, 478, 479, 578, 579, 580, 581, 583, 584, 534, 535, 536, 585, 538, 539, 207, 208, 209, 210, 496, 497, 498, 499, 586, 587, 588, 589, 1061, 1062, 1063, 1064, 1065, 1066, 1067, 1068, 1069, 1070, 1071, 1072, 1073, 1074, 1075, 1076] (sorry) (sorry)
set_option maxRecDepth 20000 in
theorem gL_law_X11_doubt : GoodIn wsL_law (wsV RL 89 RX11 yX11_doubt wsX11_doubt) := goodIn_app (goodIn_of _ (sorry)) ggL_law_X11_doubt
set_option maxRecDepth 20000 in
theorem ggL_law_X10_foretold : GoodIn wsL_law wsX10_foretold := goodIn_r _ [640, 15, 28, 306, 199, 200, 42, 201, 119, 641, 642, 643, 27, 644, 645, 195, 196, 197, 56, 198, 646, 600, 601, 50, 602, 132, 647, 429, 430, 14, 431, 47, 51, 384, 385, 386, 387, 68, 432, 433, 434, 46, 435, 64, 648, 453, 2, 454, 1053, 1054, 1055, 1056, 1057, 1058, 1059, 1060, 1077, 1078, 1079, 1096, 1097, 1098, 1099, 1100, 1102, 1103, 1104, 1105, 1106, 1107, 1108, 1109, 1110, 1101] (sorry) (sorry)
set_option maxRecDepth 20000 in
theorem gL_law_X10_foretold : GoodIn wsL_law (wsV RL 90 RX10 yX10_foretold wsX10_foretold) := goodIn_app (goodIn_of _ (sorry)) ggL_law_X10_foretold
set_option maxRecDepth 20000 in
theorem ggL_law_X11_foretold : GoodIn wsL_law wsX11_foretold := goodIn_r _ [652, 181, 278, 279, 280, 5, 281, 158, 159, 160, 161, 143, 162, 163, 164, 165, 653, 654, 655, 656, 286, 287, 288, 289, 476, 477, 478, 479, 207, 208, 209, 210, 496, 497, 498, 499, 1061, 1062, 1063, 1064, 1065, 1066, 1067, 1068, 1069, 1070, 1071, 1072, 1073, 1074, 1075, 1076] (sorry) (sorry)
set_option maxRecDepth 20000 in
theorem gL_law_X11_foretold : GoodIn wsL_law (wsV RL 93 RX11 yX11_foretold wsX11_foretold) := goodIn_app (goodIn_of _ (sorry)) ggL_law_X11_foretold
set_option maxRecDepth 20000 in
theorem ggL_law_X10_tight : GoodIn wsL_law wsX10_tight := goodIn_r _ [660, 15, 28, 306, 199, 200, 42, 201, 119, 661, 662, 663, 27, 664, 665, 666, 667, 668, 88, 87, 645, 195, 196, 197, 56, 198, 646, 600, 601, 50, 602, 132, 648, 385, 386, 387, 68, 453, 2, 454, 669, 670, 671, 672, 89, 90, 673, 674, 675, 676, 57, 677, 433, 434, 46, 435, 64, 678, 679, 680, 681, 1053, 1054, 1055, 1056, 1057, 1058, 1059, 1060, 1077, 1078, 1079, 1096, 1097, 1098, 1099, 1100, 1087, 1088, 1089, 1090, 1091, 1102, 1103, 1104, 1105, 1106, 1107, 1108, 1109, 1110, 1101] (sorry) (sorry)
set_option maxRecDepth 20000 in
theorem gL_law_X10_tight : GoodIn wsL_law (wsV RL 94 RX10 yX10_tight wsX10_tight) := goodIn_app (goodIn_of _ (sorry)) ggL_law_X10_tight
set_option maxRecDepth 20000 in
theorem ggL_law_X11_tight : GoodIn wsL_law wsX11_tight := goodIn_r _ [685, 181, 278, 279, 280, 5, 281, 158, 159, 160, 161, 143, 686, 687, 688, 689, 147, 162, 163, 164, 165, 653, 654, 655, 656, 286, 287, 288, 289, 476, 477, 478, 479, 207, 208, 209, 210, 496, 497, 498, 499, 1061, 1062, 1063, 1064, 1065, 1066, 1067, 1068, 1069, 1070, 1071, 1072, 1073, 1074, 1075, 1076] (sorry) (sorry)
set_option maxRecDepth 20000 in
theorem gL_law_X11_tight : GoodIn wsL_law (wsV RL 98 RX11 yX11_tight wsX11_tight) := goodIn_app (goodIn_of _ (sorry)) ggL_law_X11_tight
set_option maxRecDepth 20000 in
theorem ggL_law_X10_plan : GoodIn wsL_law wsX10_plan := goodIn_r _ [693, 28, 15, 174, 175, 2, 176, 694, 695, 696, 27, 697, 92, 698, 409, 410, 42, 411, 119, 665, 666, 667, 668, 88, 87, 645, 195, 196, 197, 56, 198, 199, 200, 201, 646, 600, 601, 50, 602, 132, 648, 385, 386, 387, 68, 453, 454, 699, 700, 701, 46, 702, 64, 703, 704, 705, 706, 669, 670, 671, 672, 89, 90, 673, 674, 675, 676, 57, 677, 433, 434, 435, 678, 679, 680, 681, 707, 708, 709, 710, 711, 712, 713, 714, 1053, 1054, 1055, 1056, 1057, 1058, 1059, 1060, 1077, 1078, 1079, 1087, 1088, 1089, 1090, 1091, 1096, 1097, 1098, 1099, 1100, 1102, 1103, 1104, 1105, 1106, 1107, 1108, 1109, 1110, 1101] (sorry) (sorry)
set_option maxRecDepth 20000 in
theorem gL_law_X10_plan : GoodIn wsL_law (wsV RL 99 RX10 yX10_plan wsX10_plan) := goodIn_app (goodIn_of _ (sorry)) ggL_law_X10_plan
set_option maxRecDepth 20000 in
theorem ggL_law_X11_plan : GoodIn wsL_law wsX11_plan := goodIn_r _ [718, 181, 55, 143, 182, 183, 5, 184, 476, 477, 478, 479, 158, 159, 160, 161, 686, 687, 688, 689, 147, 162, 163, 164, 165, 653, 654, 655, 656, 286, 287, 288, 289, 207, 208, 209, 210, 496, 497, 498, 499, 1061, 1062, 1063, 1064, 1065, 1066, 1067, 1068, 1069, 1070, 1071, 1072, 1073, 1074, 1075, 1076] (sorry) (sorry)
set_option maxRecDepth 20000 in
theorem gL_law_X11_plan : GoodIn wsL_law (wsV RL 102 RX11 yX11_plan wsX11_plan) := goodIn_app (goodIn_of _ (sorry)) ggL_law_X11_plan
set_option maxRecDepth 20000 in
theorem ggL_law_X10_feed : GoodIn wsL_law wsX10_feed := goodIn_r _ [722, 32, 723, 724, 725, 31, 726, 727, 96, 728, 729, 730, 1053, 1054, 1055, 1056, 1057, 1058, 1059, 1060, 1092, 1093] (sorry) (sorry)
set_option maxRecDepth 20000 in
theorem gL_law_X10_feed : GoodIn wsL_law (wsV RL 103 RX10 yX10_feed wsX10_feed) := goodIn_app (goodIn_of _ (sorry)) ggL_law_X10_feed
set_option maxRecDepth 20000 in
theorem ggL_law_X11_feed : GoodIn wsL_law wsX11_feed := goodIn_r _ [734, 181, 735, 146, 1061, 1062, 1063, 1064, 1065, 1066, 1067, 1068, 1069, 1070, 1071, 1072, 1073, 1074, 1075, 1076] (sorry) (sorry)
set_option maxRecDepth 20000 in
theorem gL_law_X11_feed : GoodIn wsL_law (wsV RL 106 RX11 yX11_feed wsX11_feed) := goodIn_app (goodIn_of _ (sorry)) ggL_law_X11_feed
set_option maxRecDepth 20000 in
theorem ggL_law_X10_end : GoodIn wsL_law wsX10_end := goodIn_r _ [739, 32, 740, 741, 742, 31, 743, 727, 175, 2, 176, 1053, 1054, 1055, 1056, 1057, 1058, 1059, 1060, 1092, 1093] (sorry) (sorry)
set_option maxRecDepth 20000 in
theorem gL_law_X10_end : GoodIn wsL_law (wsV RL 107 RX10 yX10_end wsX10_end) := goodIn_app (goodIn_of _ (sorry)) ggL_law_X10_end
set_option maxRecDepth 20000 in
theorem ggL_law_X11_end : GoodIn wsL_law wsX11_end := goodIn_r _ [747, 181, 735, 1061, 1062, 1063, 1064, 1065, 1066, 1067, 1068, 1069, 1070, 1071, 1072, 1073, 1074, 1075, 1076] (sorry) (sorry)
set_option maxRecDepth 20000 in
theorem gL_law_X11_end : GoodIn wsL_law (wsV RL 110 RX11 yX11_end wsX11_end) := goodIn_app (goodIn_of _ (sorry)) ggL_law_X11_end
set_option maxRecDepth 20000 in
theorem ggL_law_X10_fault : GoodIn wsL_law wsX10_fault := goodIn_r _ [751, 36, 32, 752, 753, 754, 35, 755, 103, 756, 757, 758, 102, 759, 760, 761, 762, 763, 764, 765, 766, 767, 768, 31, 769, 727, 770, 771, 772, 773, 96, 774, 775, 776, 777, 778, 779, 780, 781, 782, 783, 784, 785, 786, 787, 788, 789, 108, 109, 110, 175, 2, 176, 790, 791, 792, 793, 794, 795, 796, 797, 798, 799, 800, 801, 802, 803, 804, 805, 806, 807, 808, 809, 810, 811, 812, 813, 814, 815, 1053, 1054, 1055, 1056, 1057, 1058, 1059, 1060, 1094, 1095, 1111, 1112, 1113, 1114, 1115, 1116, 1117, 1118, 1119, 1092, 1093] (sorry) (sorry)
set_option maxRecDepth 20000 in
theorem gL_law_X10_fault : GoodIn wsL_law (wsV RL 111 RX10 yX10_fault wsX10_fault) := goodIn_app (goodIn_of _ (sorry)) ggL_law_X10_fault
set_option maxRecDepth 20000 in
theorem ggL_law_X11_fault : GoodIn wsL_law wsX11_fault := goodIn_r _ [819, 181, 820, 821, 822, 823, 5, 824, 825, 826, 827, 828, 829, 830, 831, 832, 833, 834, 835, 836, 837, 838, 839, 840, 841, 842, 843, 844, 735, 146, 845, 846, 847, 848, 849, 850, 851, 852, 853, 854, 855, 856, 857, 858, 859, 860, 861, 862, 863, 864, 286, 287, 288, 289, 143, 1061, 1062, 1063, 1064, 1065, 1066, 1067, 1068, 1069, 1070, 1071, 1072, 1073, 1074, 1075, 1076] (sorry) (sorry)
set_option maxRecDepth 20000 in
theorem gL_law_X11_fault : GoodIn wsL_law (wsV RL 114 RX11 yX11_fault wsX11_fault) := goodIn_app (goodIn_of _ (sorry)) ggL_law_X11_fault
set_option maxRecDepth 20000 in
theorem ggL_law_X10_list : GoodIn wsL_law wsX10_list := goodIn_r _ [868, 36, 32, 15, 869, 870, 871, 35, 872, 103, 104, 756, 757, 758, 102, 759, 760, 761, 762, 763, 764, 765, 766, 767, 768, 31, 769, 727, 770, 771, 772, 773, 96, 774, 775, 776, 777, 778, 779, 780, 781, 782, 783, 784, 785, 786, 787, 788, 789, 108, 109, 110, 175, 2, 176, 790, 791, 792, 793, 794, 795, 796, 797, 798, 799, 800, 801, 802, 803, 804, 805, 806, 807, 808, 809, 810, 811, 812, 813, 814, 815, 873, 125, 126, 127, 874, 600, 601, 50, 602, 132, 875, 876, 877, 878, 879, 880, 881, 882, 883, 385, 386, 387, 68, 884, 885, 886, 887, 888, 429, 430, 14, 431, 47, 51, 384, 432, 433, 434, 46, 435, 64, 889, 425, 426, 427, 416, 417, 418, 419, 69, 265, 249, 250, 251, 428, 890, 441, 442, 443, 43, 388, 389, 390, 391, 392, 393, 394, 395, 73, 396, 397, 398, 399, 71, 400, 401, 402, 403, 404, 405, 406, 407, 72, 408, 409, 410, 42, 411, 119, 412, 413, 414, 415, 58, 198, 199, 200, 201, 420, 421, 422, 423, 424, 891, 892, 893, 894, 895, 896, 897, 898, 899, 900, 901, 902, 903, 904, 905, 906, 1053, 1054, 1055, 1056, 1057, 1058, 1059, 1060, 1094, 1095, 1077, 1078, 1079, 1111, 1112, 1113, 1114, 1115, 1116, 1117, 1118, 1119, 1092, 1093, 1102, 1103, 1104, 1105, 1106, 1107, 1108, 1109, 1110, 1101, 1096, 1097, 1098, 1099, 1100] (sorry) (sorry)
set_option maxRecDepth 20000 in
theorem gL_law_X10_list : GoodIn wsL_law (wsV RL 115 RX10 yX10_list wsX10_list) := goodIn_app (goodIn_of _ (sorry)) ggL_law_X10_list
set_option maxRecDepth 20000 in
theorem ggL_law_X11_list_ : GoodIn wsL_law wsX11_list_ := goodIn_r _ [910, 181, 911, 148, 912, 913, 914, 5, 915, 820, 828, 149, 821, 822, 823, 824, 825, 826, 827, 829, 830, 831, 832, 833, 834, 835, 836, 837, 838, 839, 840, 841, 842, 843, 844, 735, 146, 845, 846, 847, 848, 849, 850, 851, 852, 853, 854, 855, 856, 857, 858, 859, 860, 861, 862, 863, 864, 286, 287, 288, 289, 143, 162, 163, 164, 165, 460, 461, 462, 463, 464, 465, 466, 467, 158, 159, 160, 161, 207, 208, 209, 210, 468, 469, 470, 471, 472, 473, 474, 475, 476, 477, 478, 479, 484, 485, 486, 487, 488, 489, 490, 491, 1061, 1062, 1063, 1064, 1065, 1066, 1067, 1068, 1069, 1070, 1071, 1072, 1073, 1074, 1075, 1076] (sorry) (sorry)
set_option maxRecDepth 20000 in
theorem gL_law_X11_list_ : GoodIn wsL_law (wsV RL 118 RX11 yX11_list_ wsX11_list_) := goodIn_app (goodIn_of _ (sorry)) ggL_law_X11_list_
set_option maxRecDepth 20000 in
theorem ggL_law_X10_place : GoodIn wsL_law wsX10_place := goodIn_r _ [919, 36, 32, 15, 869, 870, 871, 35, 872, 103, 104, 756, 757, 758, 102, 759, 760, 761, 762, 763, 764, 765, 766, 767, 768, 31, 769, 727, 770, 771, 772, 773, 96, 774, 775, 776, 777, 778, 779, 780, 781, 782, 783, 784, 785, 786, 787, 788, 789, 108, 109, 110, 175, 2, 176, 790, 791, 792, 793, 794, 795, 796, 797, 798, 799, 800, 801, 802, 803, 804, 805, 806, 807, 808, 809, 810, 811, 812, 813, 814, 815, 873, 125, 126, 127, 874, 600, 601, 50, 602, 132, 875, 876, 877, 878, 879, 880, 881, 882, 883, 385, 386, 387, 68, 884, 885, 886, 887, 888, 429, 430, 14, 431, 47, 51, 384, 432, 433, 434, 46, 435, 64, 889, 425, 426, 427, 416, 417, 418, 419, 69, 265, 249, 250, 251, 428, 890, 441, 442, 443, 43, 388, 389, 390, 391, 392, 393, 394, 395, 73, 396, 397, 398, 399, 71, 400, 401, 402, 403, 404, 405, 406, 407, 72, 408, 409, 410, 42, 411, 119, 412, 413, 414, 415, 58, 198, 199, 200, 201, 420, 421, 422, 423, 424, 920, 921, 922, 923, 899, 900, 901, 902, 903, 904, 905, 906, 1053, 1054, 1055, 1056, 1057, 1058, 1059, 1060, 1094, 1095, 1077, 1078, 1079, 1111, 1112, 1113, 1114, 1115, 1116, 1117, 1118, 1119, 1092, 1093, 1102, 1103, 1104, 1105, 1106, 1107, 1108, 1109, 1110, 1101, 1096, 1097, 1098, 1099, 1100] (sorry) (sorry)
set_option maxRecDepth 20000 in
theorem gL_law_X10_place : GoodIn wsL_law (wsV RL 119 RX10 yX10_place wsX10_place) := goodIn_app (goodIn_of _ (sorry)) ggL_law_X10_place
set_option maxRecDepth 20000 in
theorem ggL_law_X11_place : GoodIn wsL_law wsX11_place := goodIn_r _ [927, 181, 911, 148, 912, 913, 914, 5, 915, 820, 828, 149, 821, 822, 823, 824, 825, 826, 827, 829, 830, 831, 832, 833, 834, 835, 836, 837, 838, 839, 840, 841, 842, 843, 844, 735, 146, 845, 846, 847, 848, 849, 850, 851, 852, 853, 854, 855, 856, 857, 858, 859, 860, 861, 862, 863, 864, 286, 287, 288, 289, 143, 162, 163, 164, 165, 460, 461, 462, 463, 464, 465, 466, 467, 158, 159, 160, 161, 207, 208, 209, 210, 468, 469, 470, 471, 472, 473, 474, 475, 476, 477, 478, 479, 484, 485, 486, 487, 488, 489, 490, 491, 928, 929, 930, 931, 1061, 1062, 1063, 1064, 1065, 1066, 1067, 1068, 1069, 1070, 1071, 1072, 1073, 1074, 1075, 1076] (sorry) (sorry)
set_option maxRecDepth 20000 in
theorem gL_law_X11_place : GoodIn wsL_law (wsV RL 122 RX11 yX11_place wsX11_place) := goodIn_app (goodIn_of _ (sorry)) ggL_law_X11_place
set_option maxRecDepth 20000 in
theorem ggL_law_X10_many : GoodIn wsL_law wsX10_many := goodIn_r _ [935, 36, 32, 15, 869, 870, 871, 35, 872, 103, 104, 756, 757, 758, 102, 759, 760, 761, 762, 763, 764, 765, 766, 767, 768, 31, 769, 727, 770, 771, 772, 773, 96, 774, 775, 776, 777, 778, 779, 780, 781, 782, 783, 784, 785, 786, 787, 788, 789, 108, 109, 110, 175, 2, 176, 790, 791, 792, 793, 794, 795, 796, 797, 798, 799, 800, 801, 802, 803, 804, 805, 806, 807, 808, 809, 810, 811, 812, 813, 814, 815, 873, 125, 126, 127, 874, 600, 601, 50, 602, 132, 875, 876, 877, 878, 879, 880, 881, 882, 883, 385, 386, 387, 68, 884, 885, 886, 887, 888, 429, 430, 14, 431, 47, 51, 384, 432, 433, 434, 46, 435, 64, 889, 425, 426, 427, 416, 417, 418, 419, 69, 265, 249, 250, 251, 428, 890, 441, 442, 443, 43, 388, 389, 390, 391, 392, 393, 394, 395, 73, 396, 397, 398, 399, 71, 400, 401, 402, 403, 404, 405, 406, 407, 72, 408, 409, 410, 42, 411, 119, 412, 413, 414, 415, 58, 198, 199, 200, 201, 420, 421, 422, 423, 424, 936, 937, 938, 939, 1053, 1054, 1055, 1056, 1057, 1058, 1059, 1060, 1094, 1095, 1077, 1078, 1079, 1111, 1112, 1113, 1114, 1115, 1116, 1117, 1118, 1119, 1092, 1093, 1102, 1103, 1104, 1105, 1106, 1107, 1108, 1109, 1110, 1101, 1096, 1097, 1098, 1099, 1100] (sorry) (sorry)
set_option maxRecDepth 20000 in
theorem gL_law_X10_many : GoodIn wsL_law (wsV RL 123 RX10 yX10_many wsX10_many) := goodIn_app (goodIn_of _ (sorry)) ggL_law_X10_many
set_option maxRecDepth 20000 in
theorem ggL_law_X11_many : GoodIn wsL_law wsX11_many := goodIn_r _ [943, 181, 911, 912, 913, 914, 5, 915, 820, 828, 149, 148, 821, 822, 823, 824, 825, 826, 827, 829, 830, 831, 832, 833, 834, 835, 836, 837, 838, 839, 840, 841, 842, 843, 844, 735, 146, 845, 846, 847, 848, 849, 850, 851, 852, 853, 854, 855, 856, 857, 858, 859, 860, 861, 862, 863, 864, 286, 287, 288, 289, 143, 162, 163, 164, 165, 460, 461, 462, 463, 464, 465, 466, 467, 158, 159, 160, 161, 207, 208, 209, 210, 468, 469, 470, 471, 472, 473, 474, 475, 476, 477, 478, 479, 484, 485, 486, 487, 488, 489, 490, 491, 1061, 1062, 1063, 1064, 1065, 1066, 1067, 1068, 1069, 1070, 1071, 1072, 1073, 1074, 1075, 1076] (sorry) (sorry)
set_option maxRecDepth 20000 in
theorem gL_law_X11_many : GoodIn wsL_law (wsV RL 126 RX11 yX11_many wsX11_many) := goodIn_app (goodIn_of _ (sorry)) ggL_law_X11_many
set_option maxRecDepth 20000 in
theorem ggL_law_X10_prizes : GoodIn wsL_law wsX10_prizes := goodIn_r _ [947, 36, 32, 15, 869, 870, 871, 35, 872, 103, 104, 756, 757, 758, 102, 759, 760, 761, 762, 763, 764, 765, 766, 767, 768, 31, 769, 727, 770, 771, 772, 773, 96, 774, 775, 776, 777, 778, 779, 780, 781, 782, 783, 784, 785, 786, 787, 788, 789, 108, 109, 110, 175, 2, 176, 790, 791, 792, 793, 794, 795, 796, 797, 798, 799, 800, 801, 802, 803, 804, 805, 806, 807, 808, 809, 810, 811, 812, 813, 814, 815, 873, 125, 126, 127, 874, 600, 601, 50, 602, 132, 875, 876, 877, 878, 879, 880, 881, 882, 883, 385, 386, 387, 68, 884, 885, 886, 887, 888, 429, 430, 14, 431, 47, 51, 384, 432, 433, 434, 46, 435, 64, 889, 425, 426, 427, 416, 417, 418, 419, 69, 265, 249, 250, 251, 428, 890, 441, 442, 443, 43, 388, 389, 390, 391, 392, 393, 394, 395, 73, 396, 397, 398, 399, 71, 400, 401, 402, 403, 404, 405, 406, 407, 72, 408, 409, 410, 42, 411, 119, 412, 413, 414, 415, 58, 198, 199, 200, 201, 420, 421, 422, 423, 424, 948, 949, 950, 951, 952, 921, 922, 923, 899, 900, 901, 902, 903, 904, 905, 906, 953, 954, 955, 956, 1053, 1054, 1055, 1056, 1057, 1058, 1059, 1060, 1094, 1095, 1077, 1078, 1079, 1111, 1112, 1113, 1114, 1115, 1116, 1117, 1118, 1119, 1092, 1093, 1102, 1103, 1104, 1105, 1106, 1107, 1108, 1109, 1110, 1101, 1096, 1097, 1098, 1099, 1100] (sorry) (sorry)
set_option maxRecDepth 20000 in
theorem gL_law_X10_prizes : GoodIn wsL_law (wsV RL 127 RX10 yX10_prizes wsX10_prizes) := goodIn_app (goodIn_of _ (sorry)) ggL_law_X10_prizes
set_option maxRecDepth 20000 in
theorem ggL_law_X11_prizes : GoodIn wsL_law wsX11_prizes := goodIn_r _ [960, 181, 829, 911, 912, 913, 914, 5, 915, 820, 828, 149, 148, 821, 822, 823, 824, 825, 826, 827, 830, 831, 832, 833, 834, 835, 836, 837, 838, 839, 840, 841, 842, 843, 844, 735, 146, 845, 846, 847, 848, 849, 850, 851, 852, 853, 854, 855, 856, 857, 858, 859, 860, 861, 862, 863, 864, 286, 287, 288, 289, 143, 162, 163, 164, 165, 460, 461, 462, 463, 464, 465, 466, 467, 158, 159, 160, 161, 207, 208, 209, 210, 468, 469, 470, 471, 472, 473, 474, 475, 476, 477, 478, 479, 484, 485, 486, 487, 488, 489, 490, 491, 928, 929, 930, 931, 1061, 1062, 1063, 1064, 1065, 1066, 1067, 1068, 1069, 1070, 1071, 1072, 1073, 1074, 1075, 1076] (sorry) (sorry)
set_option maxRecDepth 20000 in
theorem gL_law_X11_prizes : GoodIn wsL_law (wsV RL 130 RX11 yX11_prizes wsX11_prizes) := goodIn_app (goodIn_of _ (sorry)) ggL_law_X11_prizes
set_option maxRecDepth 20000 in
theorem ggL_law_X10_team : GoodIn wsL_law wsX10_team := goodIn_r _ [964, 36, 32, 15, 174, 175, 2, 176, 869, 870, 871, 35, 872, 103, 104, 756, 757, 758, 102, 759, 760, 761, 762, 763, 764, 765, 766, 767, 768, 31, 769, 727, 770, 771, 772, 773, 96, 774, 775, 776, 777, 778, 779, 780, 781, 782, 783, 784, 785, 786, 787, 788, 789, 108, 109, 110, 790, 791, 792, 793, 794, 795, 796, 797, 798, 799, 800, 801, 802, 803, 804, 805, 806, 807, 808, 809, 810, 811, 812, 813, 814, 815, 873, 125, 126, 127, 874, 600, 601, 50, 602, 132, 875, 876, 877, 878, 879, 880, 881, 882, 883, 385, 386, 387, 68, 884, 885, 886, 887, 888, 429, 430, 14, 431, 47, 51, 384, 432, 433, 434, 46, 435, 64, 889, 425, 426, 427, 416, 417, 418, 419, 69, 265, 249, 250, 251, 428, 890, 441, 442, 443, 43, 388, 389, 390, 391, 392, 393, 394, 395, 73, 396, 397, 398, 399, 71, 400, 401, 402, 403, 404, 405, 406, 407, 72, 408, 409, 410, 42, 411, 119, 412, 413, 414, 415, 58, 198, 199, 200, 201, 420, 421, 422, 423, 424, 965, 966, 967, 968, 969, 970, 971, 972, 973, 974, 937, 938, 939, 895, 896, 897, 898, 899, 900, 901, 902, 903, 904, 905, 906, 1053, 1054, 1055, 1056, 1057, 1058, 1059, 1060, 1094, 1095, 1077, 1078, 1079, 1111, 1112, 1113, 1114, 1115, 1116, 1117, 1118, 1119, 1092, 1093, 1102, 1103, 1104, 1105, 1106, 1107, 1108, 1109, 1110, 1101, 1096, 1097, 1098, 1099, 1100] (sorry) (sorry)
set_option maxRecDepth 20000 in
theorem gL_law_X10_team : GoodIn wsL_law (wsV RL 131 RX10 yX10_team wsX10_team) := goodIn_app (goodIn_of _ (sorry)) ggL_law_X10_team
set_option maxRecDepth 20000 in
theorem ggL_law_X11_team : GoodIn wsL_law wsX11_team := goodIn_r _ [978, 181, 911, 148, 149, 182, 183, 5, 184, 912, 913, 914, 915, 820, 828, 821, 822, 823, 824, 825, 826, 827, 829, 830, 831, 832, 833, 834, 835, 836, 837, 838, 839, 840, 841, 842, 843, 844, 735, 146, 845, 846, 847, 848, 849, 850, 851, 852, 853, 854, 855, 856, 857, 858, 859, 860, 861, 862, 863, 864, 286, 287, 288, 289, 143, 162, 163, 164, 165, 460, 461, 462, 463, 464, 465, 466, 467, 158, 159, 160, 161, 207, 208, 209, 210, 468, 469, 470, 471, 472, 473, 474, 475, 476, 477, 478, 479, 484, 485, 486, 487, 488, 489, 490, 491, 1061, 1062, 1063, 1064, 1065, 1066, 1067, 1068, 1069, 1070, 1071, 1072, 1073, 1074, 1075, 1076] (sorry) (sorry)
set_option maxRecDepth 20000 in
theorem gL_law_X11_team : GoodIn wsL_law (wsV RL 134 RX11 yX11_team wsX11_team) := goodIn_app (goodIn_of _ (sorry)) ggL_law_X11_team
set_option maxRecDepth 20000 in
theorem ggL_law_X10_state : GoodIn wsL_law wsX10_state := goodIn_r _ [982, 15, 983, 984, 985, 14, 986, 51, 987, 600, 601, 50, 602, 132, 388, 389, 390, 391, 43, 392, 393, 394, 395, 73, 265, 249, 250, 251, 396, 397, 398, 399, 71, 400, 401, 402, 403, 404, 405, 406, 407, 72, 408, 409, 410, 42, 411, 119, 412, 413, 414, 415, 58, 198, 199, 200, 201, 416, 417, 418, 419, 69, 420, 421, 422, 423, 424, 425, 426, 427, 428, 429, 430, 431, 47, 384, 385, 386, 387, 68, 432, 433, 434, 46, 435, 64, 1053, 1054, 1055, 1056, 1057, 1058, 1059, 1060, 1077, 1078, 1079, 1102, 1103, 1104, 1105, 1106, 1107, 1108, 1109, 1110, 1096, 1097, 1098, 1099, 1100, 1101] (sorry) (sorry)
set_option maxRecDepth 20000 in
theorem gL_law_X10_state : GoodIn wsL_law (wsV RL 135 RX10 yX10_state wsX10_state) := goodIn_app (goodIn_of _ (sorry)) ggL_law_X10_state
set_option maxRecDepth 20000 in
theorem ggL_law_X11_state : GoodIn wsL_law wsX11_state := goodIn_r _ [991, 181, 162, 163, 164, 5, 165, 143, 460, 461, 462, 463, 286, 287, 288, 289, 464, 465, 466, 467, 158, 159, 160, 161, 207, 208, 209, 210, 468, 469, 470, 471, 472, 473, 474, 475, 476, 477, 478, 479, 1061, 1062, 1063, 1064, 1065, 1066, 1067, 1068, 1069, 1070, 1071, 1072, 1073, 1074, 1075, 1076] (sorry) (sorry)
set_option maxRecDepth 20000 in
theorem gL_law_X11_state : GoodIn wsL_law (wsV RL 138 RX11 yX11_state wsX11_state) := goodIn_app (goodIn_of _ (sorry)) ggL_law_X11_state
set_option maxRecDepth 20000 in
theorem ggL_law_X10_count : GoodIn wsL_law wsX10_count := goodIn_r _ [995, 15, 24, 20, 32, 996, 409, 410, 42, 411, 119, 997, 600, 601, 50, 602, 132, 594, 595, 596, 23, 597, 598, 599, 603, 514, 515, 19, 516, 517, 518, 519, 78, 79, 520, 385, 386, 387, 68, 521, 2, 522, 523, 524, 525, 526, 425, 426, 14, 427, 51, 416, 417, 418, 419, 69, 265, 249, 250, 251, 428, 429, 430, 431, 47, 384, 432, 433, 434, 46, 435, 64, 527, 528, 195, 196, 197, 56, 198, 199, 200, 201, 604, 605, 606, 607, 608, 609, 545, 546, 547, 548, 549, 550, 551, 610, 561, 562, 563, 544, 611, 612, 613, 614, 83, 615, 616, 617, 618, 540, 541, 542, 543, 564, 565, 566, 567, 556, 557, 558, 559, 568, 569, 619, 571, 572, 573, 537, 538, 535, 539, 560, 552, 553, 554, 555, 453, 454, 620, 530, 531, 532, 533, 534, 536, 998, 767, 768, 31, 769, 727, 999, 1000, 1001, 1002, 133, 1003, 1004, 1005, 1006, 43, 987, 408, 1007, 421, 422, 423, 1008, 1053, 1054, 1055, 1056, 1057, 1058, 1059, 1060, 1077, 1078, 1079, 1096, 1097, 1098, 1099, 1100, 1102, 1103, 1104, 1105, 1106, 1107, 1108, 1109, 1110, 1085, 1086, 1080, 1081, 1082, 1083, 1084, 1101, 1092, 1093] (sorry) (sorry)
set_option maxRecDepth 20000 in
theorem gL_law_X10_count : GoodIn wsL_law (wsV RL 139 RX10 yX10_count wsX10_count) := goodIn_app (goodIn_of _ (sorry)) ggL_law_X10_count
set_option maxRecDepth 20000 in
theorem ggL_law_X11_count : GoodIn wsL_law wsX11_count := goodIn_r _ [1012, 181, 735, 143, 158, 159, 160, 5, 161, 162, 163, 164, 165, 629, 630, 631, 632, 633, 634, 635, 636, 582, 480, 481, 482, 483, 472, 473, 474, 475, 468, 469, 470, 471, 286, 287, 288, 289, 476, 477, 478, 479, 578, 579, 580, 581, 583, 584, 534, 535, 536, 585, 538, 539, 207, 208, 209, 210, 496, 497, 498, 499, 586, 587, 588, 589, 492, 493, 494, 495, 1061, 1062, 1063, 1064, 1065, 1066, 1067, 1068, 1069, 1070, 1071, 1072, 1073, 1074, 1075, 1076] (sorry) (sorry)
set_option maxRecDepth 20000 in
theorem gL_law_X11_count : GoodIn wsL_law (wsV RL 142 RX11 yX11_count wsX11_count) := goodIn_app (goodIn_of _ (sorry)) ggL_law_X11_count
set_option maxRecDepth 20000 in
theorem ggL_law_X10_image : GoodIn wsL_law wsX10_image := goodIn_r _ [1016, 16, 15, 1017, 1018, 1019, 1020, 14, 1021, 43, 47, 51, 1022, 1023, 1024, 42, 1025, 56, 1026, 712, 713, 714, 57, 58, 60, 119, 1027, 708, 709, 46, 710, 64, 711, 1028, 1029, 1030, 50, 1031, 68, 1032, 69, 70, 74, 71, 72, 73, 132, 133, 1053, 1054, 1055, 1056, 1057, 1058, 1059, 1060, 1077, 1078, 1079, 1096, 1097, 1098, 1099, 1100, 1101, 1102, 1103, 1104, 1105, 1106, 1107, 1108, 1109, 1110] (sorry) (sorry)
set_option maxRecDepth 20000 in
theorem gL_law_X10_image : GoodIn wsL_law (wsV RL 143 RX10 yX10_image wsX10_image) := goodIn_app (goodIn_of _ (sorry)) ggL_law_X10_image
set_option maxRecDepth 20000 in
theorem ggL_law_X11_image : GoodIn wsL_law wsX11_image := goodIn_r _ [1036, 181, 144, 143, 1037, 1061, 1062, 1063, 1064, 1065, 1066, 1067, 1068, 1069, 1070, 1071, 1072, 1073, 1074, 1075, 1076] (sorry) (sorry)
set_option maxRecDepth 20000 in
theorem gL_law_X11_image : GoodIn wsL_law (wsV RL 146 RX11 yX11_image wsX11_image) := goodIn_app (goodIn_of _ (sorry)) ggL_law_X11_image
set_option maxRecDepth 20000 in
theorem ggL_law_X11_back : GoodIn wsL_law wsX11_back := goodIn_r _ [1052, 1037, 181, 143, 144, 1061, 1062, 1063, 1064, 1065, 1066, 1067, 1068, 1069, 1070, 1071, 1072, 1073, 1074, 1075, 1076] (sorry) (sorry)
set_option maxRecDepth 20000 in
theorem gL_law_X11_back : GoodIn wsL_law (wsV RL 152 RX11 yX11_back wsX11_back) := goodIn_app (goodIn_of _ (sorry)) ggL_law_X11_back
