/-! decode rows -/
theorem d_law_0 : decode m_law.2.2.1 0 = .ok (.new 7, 3) := by decide +kernel
theorem d_law_3 : decode m_law.2.2.1 3 = .ok (.dup, 1) := by decide +kernel
theorem d_law_4 : decode m_law.2.2.1 4 = .ok (.invokespecial 9, 3) := by decide +kernel
theorem d_law_7 : decode m_law.2.2.1 7 = .ok (.astore_n 1, 1) := by decide +kernel
theorem d_law_8 : decode m_law.2.2.1 8 = .ok (.new 10, 3) := by decide +kernel
theorem d_law_11 : decode m_law.2.2.1 11 = .ok (.dup, 1) := by decide +kernel
theorem d_law_12 : decode m_law.2.2.1 12 = .ok (.invokespecial 12, 3) := by decide +kernel
theorem d_law_15 : decode m_law.2.2.1 15 = .ok (.astore_n 2, 1) := by decide +kernel
theorem d_law_16 : decode m_law.2.2.1 16 = .ok (.iconst 0, 1) := by decide +kernel
theorem d_law_17 : decode m_law.2.2.1 17 = .ok (.istore_n 3, 1) := by decide +kernel
theorem d_law_18 : decode m_law.2.2.1 18 = .ok (.iload_n 3, 1) := by decide +kernel
theorem d_law_19 : decode m_law.2.2.1 19 = .ok (.aload_n 0, 1) := by decide +kernel
theorem d_law_20 : decode m_law.2.2.1 20 = .ok (.arraylength, 1) := by decide +kernel
theorem d_law_21 : decode m_law.2.2.1 21 = .ok (.iconst 4, 1) := by decide +kernel
theorem d_law_22 : decode m_law.2.2.1 22 = .ok (.isub, 1) := by decide +kernel
theorem d_law_23 : decode m_law.2.2.1 23 = .ok (.if_icmp .gt 1285, 3) := by decide +kernel
theorem d_law_26 : decode m_law.2.2.1 26 = .ok (.aload_n 0, 1) := by decide +kernel
theorem d_law_27 : decode m_law.2.2.1 27 = .ok (.iload_n 3, 1) := by decide +kernel
theorem d_law_28 : decode m_law.2.2.1 28 = .ok (.iaload, 1) := by decide +kernel
theorem d_law_29 : decode m_law.2.2.1 29 = .ok (.bipush 63, 2) := by decide +kernel
theorem d_law_31 : decode m_law.2.2.1 31 = .ok (.iand, 1) := by decide +kernel
theorem d_law_32 : decode m_law.2.2.1 32 = .ok (.tableswitch 1270 0 38 #[172, 205, 238, 271, 304, 317, 330, 353, 366, 389, 402, 425, 458, 471, 494, 527, 560, 593, 626, 669, 702, 735, 758, 791, 824, 867, 890, 913, 946, 979, 1012, 1045, 1068, 1092, 1135, 1178, 1211, 1244, 1257], 172) := by decide +kernel
theorem d_law_204 : decode m_law.2.2.1 204 = .ok (.aload_n 1, 1) := by decide +kernel
theorem d_law_205 : decode m_law.2.2.1 205 = .ok (.aload_n 0, 1) := by decide +kernel
theorem d_law_206 : decode m_law.2.2.1 206 = .ok (.iload_n 3, 1) := by decide +kernel
theorem d_law_207 : decode m_law.2.2.1 207 = .ok (.iconst 1, 1) := by decide +kernel
theorem d_law_208 : decode m_law.2.2.1 208 = .ok (.iadd, 1) := by decide +kernel
theorem d_law_209 : decode m_law.2.2.1 209 = .ok (.iaload, 1) := by decide +kernel
theorem d_law_210 : decode m_law.2.2.1 210 = .ok (.aload_n 0, 1) := by decide +kernel
theorem d_law_211 : decode m_law.2.2.1 211 = .ok (.iload_n 3, 1) := by decide +kernel
theorem d_law_212 : decode m_law.2.2.1 212 = .ok (.iconst 2, 1) := by decide +kernel
theorem d_law_213 : decode m_law.2.2.1 213 = .ok (.iadd, 1) := by decide +kernel
theorem d_law_214 : decode m_law.2.2.1 214 = .ok (.iaload, 1) := by decide +kernel
theorem d_law_215 : decode m_law.2.2.1 215 = .ok (.invokevirtual 13, 3) := by decide +kernel
theorem d_law_218 : decode m_law.2.2.1 218 = .ok (.aload_n 2, 1) := by decide +kernel
theorem d_law_219 : decode m_law.2.2.1 219 = .ok (.aload_n 0, 1) := by decide +kernel
theorem d_law_220 : decode m_law.2.2.1 220 = .ok (.iload_n 3, 1) := by decide +kernel
theorem d_law_221 : decode m_law.2.2.1 221 = .ok (.iconst 1, 1) := by decide +kernel
theorem d_law_222 : decode m_law.2.2.1 222 = .ok (.iadd, 1) := by decide +kernel
theorem d_law_223 : decode m_law.2.2.1 223 = .ok (.iaload, 1) := by decide +kernel
theorem d_law_224 : decode m_law.2.2.1 224 = .ok (.aload_n 0, 1) := by decide +kernel
theorem d_law_225 : decode m_law.2.2.1 225 = .ok (.iload_n 3, 1) := by decide +kernel
theorem d_law_226 : decode m_law.2.2.1 226 = .ok (.iconst 2, 1) := by decide +kernel
theorem d_law_227 : decode m_law.2.2.1 227 = .ok (.iadd, 1) := by decide +kernel
theorem d_law_228 : decode m_law.2.2.1 228 = .ok (.iaload, 1) := by decide +kernel
theorem d_law_229 : decode m_law.2.2.1 229 = .ok (.invokevirtual 17, 3) := by decide +kernel
theorem d_law_232 : decode m_law.2.2.1 232 = .ok (.if_icmp .eq 1070, 3) := by decide +kernel
theorem d_law_235 : decode m_law.2.2.1 235 = .ok (.iconst 0, 1) := by decide +kernel
theorem d_law_236 : decode m_law.2.2.1 236 = .ok (.ireturn, 1) := by decide +kernel
theorem d_law_237 : decode m_law.2.2.1 237 = .ok (.aload_n 1, 1) := by decide +kernel
theorem d_law_238 : decode m_law.2.2.1 238 = .ok (.aload_n 0, 1) := by decide +kernel
theorem d_law_239 : decode m_law.2.2.1 239 = .ok (.iload_n 3, 1) := by decide +kernel
theorem d_law_240 : decode m_law.2.2.1 240 = .ok (.iconst 1, 1) := by decide +kernel
theorem d_law_241 : decode m_law.2.2.1 241 = .ok (.iadd, 1) := by decide +kernel
theorem d_law_242 : decode m_law.2.2.1 242 = .ok (.iaload, 1) := by decide +kernel
theorem d_law_243 : decode m_law.2.2.1 243 = .ok (.aload_n 0, 1) := by decide +kernel
theorem d_law_244 : decode m_law.2.2.1 244 = .ok (.iload_n 3, 1) := by decide +kernel
theorem d_law_245 : decode m_law.2.2.1 245 = .ok (.iconst 2, 1) := by decide +kernel
theorem d_law_246 : decode m_law.2.2.1 246 = .ok (.iadd, 1) := by decide +kernel
theorem d_law_247 : decode m_law.2.2.1 247 = .ok (.iaload, 1) := by decide +kernel
theorem d_law_248 : decode m_law.2.2.1 248 = .ok (.invokevirtual 18, 3) := by decide +kernel
theorem d_law_251 : decode m_law.2.2.1 251 = .ok (.aload_n 2, 1) := by decide +kernel
theorem d_law_252 : decode m_law.2.2.1 252 = .ok (.aload_n 0, 1) := by decide +kernel
theorem d_law_253 : decode m_law.2.2.1 253 = .ok (.iload_n 3, 1) := by decide +kernel
theorem d_law_254 : decode m_law.2.2.1 254 = .ok (.iconst 1, 1) := by decide +kernel
theorem d_law_255 : decode m_law.2.2.1 255 = .ok (.iadd, 1) := by decide +kernel
theorem d_law_256 : decode m_law.2.2.1 256 = .ok (.iaload, 1) := by decide +kernel
theorem d_law_257 : decode m_law.2.2.1 257 = .ok (.aload_n 0, 1) := by decide +kernel
theorem d_law_258 : decode m_law.2.2.1 258 = .ok (.iload_n 3, 1) := by decide +kernel
theorem d_law_259 : decode m_law.2.2.1 259 = .ok (.iconst 2, 1) := by decide +kernel
theorem d_law_260 : decode m_law.2.2.1 260 = .ok (.iadd, 1) := by decide +kernel
theorem d_law_261 : decode m_law.2.2.1 261 = .ok (.iaload, 1) := by decide +kernel
theorem d_law_262 : decode m_law.2.2.1 262 = .ok (.invokevirtual 21, 3) := by decide +kernel
theorem d_law_265 : decode m_law.2.2.1 265 = .ok (.if_icmp .eq 1037, 3) := by decide +kernel
theorem d_law_268 : decode m_law.2.2.1 268 = .ok (.iconst 0, 1) := by decide +kernel
theorem d_law_269 : decode m_law.2.2.1 269 = .ok (.ireturn, 1) := by decide +kernel
theorem d_law_270 : decode m_law.2.2.1 270 = .ok (.aload_n 1, 1) := by decide +kernel
theorem d_law_271 : decode m_law.2.2.1 271 = .ok (.aload_n 0, 1) := by decide +kernel
theorem d_law_272 : decode m_law.2.2.1 272 = .ok (.iload_n 3, 1) := by decide +kernel
theorem d_law_273 : decode m_law.2.2.1 273 = .ok (.iconst 1, 1) := by decide +kernel
theorem d_law_274 : decode m_law.2.2.1 274 = .ok (.iadd, 1) := by decide +kernel
theorem d_law_275 : decode m_law.2.2.1 275 = .ok (.iaload, 1) := by decide +kernel
theorem d_law_276 : decode m_law.2.2.1 276 = .ok (.aload_n 0, 1) := by decide +kernel
theorem d_law_277 : decode m_law.2.2.1 277 = .ok (.iload_n 3, 1) := by decide +kernel
theorem d_law_278 : decode m_law.2.2.1 278 = .ok (.iconst 2, 1) := by decide +kernel
theorem d_law_279 : decode m_law.2.2.1 279 = .ok (.iadd, 1) := by decide +kernel
theorem d_law_280 : decode m_law.2.2.1 280 = .ok (.iaload, 1) := by decide +kernel
theorem d_law_281 : decode m_law.2.2.1 281 = .ok (.invokevirtual 22, 3) := by decide +kernel
theorem d_law_284 : decode m_law.2.2.1 284 = .ok (.aload_n 2, 1) := by decide +kernel
theorem d_law_285 : decode m_law.2.2.1 285 = .ok (.aload_n 0, 1) := by decide +kernel
theorem d_law_286 : decode m_law.2.2.1 286 = .ok (.iload_n 3, 1) := by decide +kernel
theorem d_law_287 : decode m_law.2.2.1 287 = .ok (.iconst 1, 1) := by decide +kernel
theorem d_law_288 : decode m_law.2.2.1 288 = .ok (.iadd, 1) := by decide +kernel
theorem d_law_289 : decode m_law.2.2.1 289 = .ok (.iaload, 1) := by decide +kernel
theorem d_law_290 : decode m_law.2.2.1 290 = .ok (.aload_n 0, 1) := by decide +kernel
theorem d_law_291 : decode m_law.2.2.1 291 = .ok (.iload_n 3, 1) := by decide +kernel
theorem d_law_292 : decode m_law.2.2.1 292 = .ok (.iconst 2, 1) := by decide +kernel
theorem d_law_293 : decode m_law.2.2.1 293 = .ok (.iadd, 1) := by decide +kernel
theorem d_law_294 : decode m_law.2.2.1 294 = .ok (.iaload, 1) := by decide +kernel
theorem d_law_295 : decode m_law.2.2.1 295 = .ok (.invokevirtual 25, 3) := by decide +kernel
theorem d_law_298 : decode m_law.2.2.1 298 = .ok (.if_icmp .eq 1004, 3) := by decide +kernel
theorem d_law_301 : decode m_law.2.2.1 301 = .ok (.iconst 0, 1) := by decide +kernel
theorem d_law_302 : decode m_law.2.2.1 302 = .ok (.ireturn, 1) := by decide +kernel
theorem d_law_303 : decode m_law.2.2.1 303 = .ok (.aload_n 1, 1) := by decide +kernel
theorem d_law_304 : decode m_law.2.2.1 304 = .ok (.aload_n 0, 1) := by decide +kernel
theorem d_law_305 : decode m_law.2.2.1 305 = .ok (.iload_n 3, 1) := by decide +kernel
theorem d_law_306 : decode m_law.2.2.1 306 = .ok (.iconst 1, 1) := by decide +kernel
theorem d_law_307 : decode m_law.2.2.1 307 = .ok (.iadd, 1) := by decide +kernel
theorem d_law_308 : decode m_law.2.2.1 308 = .ok (.iaload, 1) := by decide +kernel
theorem d_law_309 : decode m_law.2.2.1 309 = .ok (.aload_n 0, 1) := by decide +kernel
theorem d_law_310 : decode m_law.2.2.1 310 = .ok (.iload_n 3, 1) := by decide +kernel
theorem d_law_311 : decode m_law.2.2.1 311 = .ok (.iconst 2, 1) := by decide +kernel
theorem d_law_312 : decode m_law.2.2.1 312 = .ok (.iadd, 1) := by decide +kernel
theorem d_law_313 : decode m_law.2.2.1 313 = .ok (.iaload, 1) := by decide +kernel
theorem d_law_314 : decode m_law.2.2.1 314 = .ok (.invokevirtual 26, 3) := by decide +kernel
theorem d_law_317 : decode m_law.2.2.1 317 = .ok (.aload_n 2, 1) := by decide +kernel
theorem d_law_318 : decode m_law.2.2.1 318 = .ok (.aload_n 0, 1) := by decide +kernel
theorem d_law_319 : decode m_law.2.2.1 319 = .ok (.iload_n 3, 1) := by decide +kernel
theorem d_law_320 : decode m_law.2.2.1 320 = .ok (.iconst 1, 1) := by decide +kernel
theorem d_law_321 : decode m_law.2.2.1 321 = .ok (.iadd, 1) := by decide +kernel
theorem d_law_322 : decode m_law.2.2.1 322 = .ok (.iaload, 1) := by decide +kernel
theorem d_law_323 : decode m_law.2.2.1 323 = .ok (.aload_n 0, 1) := by decide +kernel
theorem d_law_324 : decode m_law.2.2.1 324 = .ok (.iload_n 3, 1) := by decide +kernel
theorem d_law_325 : decode m_law.2.2.1 325 = .ok (.iconst 2, 1) := by decide +kernel
theorem d_law_326 : decode m_law.2.2.1 326 = .ok (.iadd, 1) := by decide +kernel
theorem d_law_327 : decode m_law.2.2.1 327 = .ok (.iaload, 1) := by decide +kernel
theorem d_law_328 : decode m_law.2.2.1 328 = .ok (.invokevirtual 29, 3) := by decide +kernel
theorem d_law_331 : decode m_law.2.2.1 331 = .ok (.if_icmp .eq 971, 3) := by decide +kernel
theorem d_law_334 : decode m_law.2.2.1 334 = .ok (.iconst 0, 1) := by decide +kernel
theorem d_law_335 : decode m_law.2.2.1 335 = .ok (.ireturn, 1) := by decide +kernel
theorem d_law_336 : decode m_law.2.2.1 336 = .ok (.aload_n 1, 1) := by decide +kernel
theorem d_law_337 : decode m_law.2.2.1 337 = .ok (.invokevirtual 30, 3) := by decide +kernel
theorem d_law_340 : decode m_law.2.2.1 340 = .ok (.aload_n 2, 1) := by decide +kernel
theorem d_law_341 : decode m_law.2.2.1 341 = .ok (.invokevirtual 34, 3) := by decide +kernel
theorem d_law_344 : decode m_law.2.2.1 344 = .ok (.if_icmp .eq 958, 3) := by decide +kernel
theorem d_law_347 : decode m_law.2.2.1 347 = .ok (.iconst 0, 1) := by decide +kernel
theorem d_law_348 : decode m_law.2.2.1 348 = .ok (.ireturn, 1) := by decide +kernel
theorem d_law_349 : decode m_law.2.2.1 349 = .ok (.aload_n 1, 1) := by decide +kernel
theorem d_law_350 : decode m_law.2.2.1 350 = .ok (.invokevirtual 35, 3) := by decide +kernel
theorem d_law_353 : decode m_law.2.2.1 353 = .ok (.aload_n 2, 1) := by decide +kernel
theorem d_law_354 : decode m_law.2.2.1 354 = .ok (.invokevirtual 38, 3) := by decide +kernel
theorem d_law_357 : decode m_law.2.2.1 357 = .ok (.if_icmp .eq 945, 3) := by decide +kernel
theorem d_law_360 : decode m_law.2.2.1 360 = .ok (.iconst 0, 1) := by decide +kernel
theorem d_law_361 : decode m_law.2.2.1 361 = .ok (.ireturn, 1) := by decide +kernel
theorem d_law_362 : decode m_law.2.2.1 362 = .ok (.aload_n 1, 1) := by decide +kernel
theorem d_law_363 : decode m_law.2.2.1 363 = .ok (.aload_n 0, 1) := by decide +kernel
theorem d_law_364 : decode m_law.2.2.1 364 = .ok (.iload_n 3, 1) := by decide +kernel
theorem d_law_365 : decode m_law.2.2.1 365 = .ok (.iconst 1, 1) := by decide +kernel
theorem d_law_366 : decode m_law.2.2.1 366 = .ok (.iadd, 1) := by decide +kernel
theorem d_law_367 : decode m_law.2.2.1 367 = .ok (.iaload, 1) := by decide +kernel
theorem d_law_368 : decode m_law.2.2.1 368 = .ok (.invokevirtual 39, 3) := by decide +kernel
theorem d_law_371 : decode m_law.2.2.1 371 = .ok (.aload_n 2, 1) := by decide +kernel
theorem d_law_372 : decode m_law.2.2.1 372 = .ok (.aload_n 0, 1) := by decide +kernel
theorem d_law_373 : decode m_law.2.2.1 373 = .ok (.iload_n 3, 1) := by decide +kernel
theorem d_law_374 : decode m_law.2.2.1 374 = .ok (.iconst 1, 1) := by decide +kernel
theorem d_law_375 : decode m_law.2.2.1 375 = .ok (.iadd, 1) := by decide +kernel
theorem d_law_376 : decode m_law.2.2.1 376 = .ok (.iaload, 1) := by decide +kernel
theorem d_law_377 : decode m_law.2.2.1 377 = .ok (.invokevirtual 43, 3) := by decide +kernel
theorem d_law_380 : decode m_law.2.2.1 380 = .ok (.if_icmp .eq 922, 3) := by decide +kernel
theorem d_law_383 : decode m_law.2.2.1 383 = .ok (.iconst 0, 1) := by decide +kernel
theorem d_law_384 : decode m_law.2.2.1 384 = .ok (.ireturn, 1) := by decide +kernel
theorem d_law_385 : decode m_law.2.2.1 385 = .ok (.aload_n 1, 1) := by decide +kernel
theorem d_law_386 : decode m_law.2.2.1 386 = .ok (.invokevirtual 44, 3) := by decide +kernel
theorem d_law_389 : decode m_law.2.2.1 389 = .ok (.aload_n 2, 1) := by decide +kernel
theorem d_law_390 : decode m_law.2.2.1 390 = .ok (.invokevirtual 47, 3) := by decide +kernel
theorem d_law_393 : decode m_law.2.2.1 393 = .ok (.if_icmp .eq 909, 3) := by decide +kernel
theorem d_law_396 : decode m_law.2.2.1 396 = .ok (.iconst 0, 1) := by decide +kernel
theorem d_law_397 : decode m_law.2.2.1 397 = .ok (.ireturn, 1) := by decide +kernel
theorem d_law_398 : decode m_law.2.2.1 398 = .ok (.aload_n 1, 1) := by decide +kernel
theorem d_law_399 : decode m_law.2.2.1 399 = .ok (.aload_n 0, 1) := by decide +kernel
theorem d_law_400 : decode m_law.2.2.1 400 = .ok (.iload_n 3, 1) := by decide +kernel
theorem d_law_401 : decode m_law.2.2.1 401 = .ok (.iconst 1, 1) := by decide +kernel
theorem d_law_402 : decode m_law.2.2.1 402 = .ok (.iadd, 1) := by decide +kernel
theorem d_law_403 : decode m_law.2.2.1 403 = .ok (.iaload, 1) := by decide +kernel
theorem d_law_404 : decode m_law.2.2.1 404 = .ok (.invokevirtual 48, 3) := by decide +kernel
theorem d_law_407 : decode m_law.2.2.1 407 = .ok (.aload_n 2, 1) := by decide +kernel
theorem d_law_408 : decode m_law.2.2.1 408 = .ok (.aload_n 0, 1) := by decide +kernel
theorem d_law_409 : decode m_law.2.2.1 409 = .ok (.iload_n 3, 1) := by decide +kernel
theorem d_law_410 : decode m_law.2.2.1 410 = .ok (.iconst 1, 1) := by decide +kernel
theorem d_law_411 : decode m_law.2.2.1 411 = .ok (.iadd, 1) := by decide +kernel
theorem d_law_412 : decode m_law.2.2.1 412 = .ok (.iaload, 1) := by decide +kernel
theorem d_law_413 : decode m_law.2.2.1 413 = .ok (.invokevirtual 51, 3) := by decide +kernel
theorem d_law_416 : decode m_law.2.2.1 416 = .ok (.if_icmp .eq 886, 3) := by decide +kernel
theorem d_law_419 : decode m_law.2.2.1 419 = .ok (.iconst 0, 1) := by decide +kernel
theorem d_law_420 : decode m_law.2.2.1 420 = .ok (.ireturn, 1) := by decide +kernel
theorem d_law_421 : decode m_law.2.2.1 421 = .ok (.aload_n 1, 1) := by decide +kernel
theorem d_law_422 : decode m_law.2.2.1 422 = .ok (.invokevirtual 52, 3) := by decide +kernel
theorem d_law_425 : decode m_law.2.2.1 425 = .ok (.aload_n 2, 1) := by decide +kernel
theorem d_law_426 : decode m_law.2.2.1 426 = .ok (.invokevirtual 55, 3) := by decide +kernel
theorem d_law_429 : decode m_law.2.2.1 429 = .ok (.if_icmp .eq 873, 3) := by decide +kernel
theorem d_law_432 : decode m_law.2.2.1 432 = .ok (.iconst 0, 1) := by decide +kernel
theorem d_law_433 : decode m_law.2.2.1 433 = .ok (.ireturn, 1) := by decide +kernel
theorem d_law_434 : decode m_law.2.2.1 434 = .ok (.aload_n 1, 1) := by decide +kernel
theorem d_law_435 : decode m_law.2.2.1 435 = .ok (.aload_n 0, 1) := by decide +kernel
theorem d_law_436 : decode m_law.2.2.1 436 = .ok (.iload_n 3, 1) := by decide +kernel
theorem d_law_437 : decode m_law.2.2.1 437 = .ok (.iconst 1, 1) := by decide +kernel
theorem d_law_438 : decode m_law.2.2.1 438 = .ok (.iadd, 1) := by decide +kernel
theorem d_law_439 : decode m_law.2.2.1 439 = .ok (.iaload, 1) := by decide +kernel
theorem d_law_440 : decode m_law.2.2.1 440 = .ok (.invokevirtual 56, 3) := by decide +kernel
theorem d_law_443 : decode m_law.2.2.1 443 = .ok (.aload_n 2, 1) := by decide +kernel
theorem d_law_444 : decode m_law.2.2.1 444 = .ok (.aload_n 0, 1) := by decide +kernel
theorem d_law_445 : decode m_law.2.2.1 445 = .ok (.iload_n 3, 1) := by decide +kernel
theorem d_law_446 : decode m_law.2.2.1 446 = .ok (.iconst 1, 1) := by decide +kernel
theorem d_law_447 : decode m_law.2.2.1 447 = .ok (.iadd, 1) := by decide +kernel
theorem d_law_448 : decode m_law.2.2.1 448 = .ok (.iaload, 1) := by decide +kernel
theorem d_law_449 : decode m_law.2.2.1 449 = .ok (.invokevirtual 59, 3) := by decide +kernel
theorem d_law_452 : decode m_law.2.2.1 452 = .ok (.if_icmp .eq 850, 3) := by decide +kernel
theorem d_law_455 : decode m_law.2.2.1 455 = .ok (.iconst 0, 1) := by decide +kernel
theorem d_law_456 : decode m_law.2.2.1 456 = .ok (.ireturn, 1) := by decide +kernel
theorem d_law_457 : decode m_law.2.2.1 457 = .ok (.aload_n 1, 1) := by decide +kernel
theorem d_law_458 : decode m_law.2.2.1 458 = .ok (.aload_n 0, 1) := by decide +kernel
theorem d_law_459 : decode m_law.2.2.1 459 = .ok (.iload_n 3, 1) := by decide +kernel
theorem d_law_460 : decode m_law.2.2.1 460 = .ok (.iconst 1, 1) := by decide +kernel
theorem d_law_461 : decode m_law.2.2.1 461 = .ok (.iadd, 1) := by decide +kernel
theorem d_law_462 : decode m_law.2.2.1 462 = .ok (.iaload, 1) := by decide +kernel
theorem d_law_463 : decode m_law.2.2.1 463 = .ok (.aload_n 0, 1) := by decide +kernel
theorem d_law_464 : decode m_law.2.2.1 464 = .ok (.iload_n 3, 1) := by decide +kernel
theorem d_law_465 : decode m_law.2.2.1 465 = .ok (.iconst 2, 1) := by decide +kernel
theorem d_law_466 : decode m_law.2.2.1 466 = .ok (.iadd, 1) := by decide +kernel
theorem d_law_467 : decode m_law.2.2.1 467 = .ok (.iaload, 1) := by decide +kernel
theorem d_law_468 : decode m_law.2.2.1 468 = .ok (.invokevirtual 60, 3) := by decide +kernel
theorem d_law_471 : decode m_law.2.2.1 471 = .ok (.aload_n 2, 1) := by decide +kernel
theorem d_law_472 : decode m_law.2.2.1 472 = .ok (.aload_n 0, 1) := by decide +kernel
theorem d_law_473 : decode m_law.2.2.1 473 = .ok (.iload_n 3, 1) := by decide +kernel
theorem d_law_474 : decode m_law.2.2.1 474 = .ok (.iconst 1, 1) := by decide +kernel
theorem d_law_475 : decode m_law.2.2.1 475 = .ok (.iadd, 1) := by decide +kernel
theorem d_law_476 : decode m_law.2.2.1 476 = .ok (.iaload, 1) := by decide +kernel
theorem d_law_477 : decode m_law.2.2.1 477 = .ok (.aload_n 0, 1) := by decide +kernel
theorem d_law_478 : decode m_law.2.2.1 478 = .ok (.iload_n 3, 1) := by decide +kernel
theorem d_law_479 : decode m_law.2.2.1 479 = .ok (.iconst 2, 1) := by decide +kernel
theorem d_law_480 : decode m_law.2.2.1 480 = .ok (.iadd, 1) := by decide +kernel
theorem d_law_481 : decode m_law.2.2.1 481 = .ok (.iaload, 1) := by decide +kernel
theorem d_law_482 : decode m_law.2.2.1 482 = .ok (.invokevirtual 63, 3) := by decide +kernel
theorem d_law_485 : decode m_law.2.2.1 485 = .ok (.if_icmp .eq 817, 3) := by decide +kernel
theorem d_law_488 : decode m_law.2.2.1 488 = .ok (.iconst 0, 1) := by decide +kernel
theorem d_law_489 : decode m_law.2.2.1 489 = .ok (.ireturn, 1) := by decide +kernel
theorem d_law_490 : decode m_law.2.2.1 490 = .ok (.aload_n 1, 1) := by decide +kernel
theorem d_law_491 : decode m_law.2.2.1 491 = .ok (.invokevirtual 64, 3) := by decide +kernel
theorem d_law_494 : decode m_law.2.2.1 494 = .ok (.aload_n 2, 1) := by decide +kernel
theorem d_law_495 : decode m_law.2.2.1 495 = .ok (.invokevirtual 67, 3) := by decide +kernel
theorem d_law_498 : decode m_law.2.2.1 498 = .ok (.if_icmp .eq 804, 3) := by decide +kernel
theorem d_law_501 : decode m_law.2.2.1 501 = .ok (.iconst 0, 1) := by decide +kernel
theorem d_law_502 : decode m_law.2.2.1 502 = .ok (.ireturn, 1) := by decide +kernel
theorem d_law_503 : decode m_law.2.2.1 503 = .ok (.aload_n 1, 1) := by decide +kernel
theorem d_law_504 : decode m_law.2.2.1 504 = .ok (.aload_n 0, 1) := by decide +kernel
theorem d_law_505 : decode m_law.2.2.1 505 = .ok (.iload_n 3, 1) := by decide +kernel
theorem d_law_506 : decode m_law.2.2.1 506 = .ok (.iconst 1, 1) := by decide +kernel
theorem d_law_507 : decode m_law.2.2.1 507 = .ok (.iadd, 1) := by decide +kernel
theorem d_law_508 : decode m_law.2.2.1 508 = .ok (.iaload, 1) := by decide +kernel
theorem d_law_509 : decode m_law.2.2.1 509 = .ok (.invokevirtual 68, 3) := by decide +kernel
theorem d_law_512 : decode m_law.2.2.1 512 = .ok (.aload_n 2, 1) := by decide +kernel
theorem d_law_513 : decode m_law.2.2.1 513 = .ok (.aload_n 0, 1) := by decide +kernel
theorem d_law_514 : decode m_law.2.2.1 514 = .ok (.iload_n 3, 1) := by decide +kernel
theorem d_law_515 : decode m_law.2.2.1 515 = .ok (.iconst 1, 1) := by decide +kernel
theorem d_law_516 : decode m_law.2.2.1 516 = .ok (.iadd, 1) := by decide +kernel
theorem d_law_517 : decode m_law.2.2.1 517 = .ok (.iaload, 1) := by decide +kernel
theorem d_law_518 : decode m_law.2.2.1 518 = .ok (.invokevirtual 71, 3) := by decide +kernel
theorem d_law_521 : decode m_law.2.2.1 521 = .ok (.if_icmp .eq 781, 3) := by decide +kernel
theorem d_law_524 : decode m_law.2.2.1 524 = .ok (.iconst 0, 1) := by decide +kernel
theorem d_law_525 : decode m_law.2.2.1 525 = .ok (.ireturn, 1) := by decide +kernel
theorem d_law_526 : decode m_law.2.2.1 526 = .ok (.aload_n 1, 1) := by decide +kernel
theorem d_law_527 : decode m_law.2.2.1 527 = .ok (.aload_n 0, 1) := by decide +kernel
theorem d_law_528 : decode m_law.2.2.1 528 = .ok (.iload_n 3, 1) := by decide +kernel
theorem d_law_529 : decode m_law.2.2.1 529 = .ok (.iconst 1, 1) := by decide +kernel
theorem d_law_530 : decode m_law.2.2.1 530 = .ok (.iadd, 1) := by decide +kernel
theorem d_law_531 : decode m_law.2.2.1 531 = .ok (.iaload, 1) := by decide +kernel
theorem d_law_532 : decode m_law.2.2.1 532 = .ok (.aload_n 0, 1) := by decide +kernel
theorem d_law_533 : decode m_law.2.2.1 533 = .ok (.iload_n 3, 1) := by decide +kernel
theorem d_law_534 : decode m_law.2.2.1 534 = .ok (.iconst 2, 1) := by decide +kernel
theorem d_law_535 : decode m_law.2.2.1 535 = .ok (.iadd, 1) := by decide +kernel
theorem d_law_536 : decode m_law.2.2.1 536 = .ok (.iaload, 1) := by decide +kernel
theorem d_law_537 : decode m_law.2.2.1 537 = .ok (.invokevirtual 72, 3) := by decide +kernel
theorem d_law_540 : decode m_law.2.2.1 540 = .ok (.aload_n 2, 1) := by decide +kernel
theorem d_law_541 : decode m_law.2.2.1 541 = .ok (.aload_n 0, 1) := by decide +kernel
theorem d_law_542 : decode m_law.2.2.1 542 = .ok (.iload_n 3, 1) := by decide +kernel
theorem d_law_543 : decode m_law.2.2.1 543 = .ok (.iconst 1, 1) := by decide +kernel
theorem d_law_544 : decode m_law.2.2.1 544 = .ok (.iadd, 1) := by decide +kernel
theorem d_law_545 : decode m_law.2.2.1 545 = .ok (.iaload, 1) := by decide +kernel
theorem d_law_546 : decode m_law.2.2.1 546 = .ok (.aload_n 0, 1) := by decide +kernel
theorem d_law_547 : decode m_law.2.2.1 547 = .ok (.iload_n 3, 1) := by decide +kernel
theorem d_law_548 : decode m_law.2.2.1 548 = .ok (.iconst 2, 1) := by decide +kernel
theorem d_law_549 : decode m_law.2.2.1 549 = .ok (.iadd, 1) := by decide +kernel
theorem d_law_550 : decode m_law.2.2.1 550 = .ok (.iaload, 1) := by decide +kernel
theorem d_law_551 : decode m_law.2.2.1 551 = .ok (.invokevirtual 75, 3) := by decide +kernel
theorem d_law_554 : decode m_law.2.2.1 554 = .ok (.if_icmp .eq 748, 3) := by decide +kernel
theorem d_law_557 : decode m_law.2.2.1 557 = .ok (.iconst 0, 1) := by decide +kernel
theorem d_law_558 : decode m_law.2.2.1 558 = .ok (.ireturn, 1) := by decide +kernel
theorem d_law_559 : decode m_law.2.2.1 559 = .ok (.aload_n 1, 1) := by decide +kernel
theorem d_law_560 : decode m_law.2.2.1 560 = .ok (.aload_n 0, 1) := by decide +kernel
theorem d_law_561 : decode m_law.2.2.1 561 = .ok (.iload_n 3, 1) := by decide +kernel
theorem d_law_562 : decode m_law.2.2.1 562 = .ok (.iconst 1, 1) := by decide +kernel
theorem d_law_563 : decode m_law.2.2.1 563 = .ok (.iadd, 1) := by decide +kernel
theorem d_law_564 : decode m_law.2.2.1 564 = .ok (.iaload, 1) := by decide +kernel
theorem d_law_565 : decode m_law.2.2.1 565 = .ok (.aload_n 0, 1) := by decide +kernel
theorem d_law_566 : decode m_law.2.2.1 566 = .ok (.iload_n 3, 1) := by decide +kernel
theorem d_law_567 : decode m_law.2.2.1 567 = .ok (.iconst 2, 1) := by decide +kernel
theorem d_law_568 : decode m_law.2.2.1 568 = .ok (.iadd, 1) := by decide +kernel
theorem d_law_569 : decode m_law.2.2.1 569 = .ok (.iaload, 1) := by decide +kernel
theorem d_law_570 : decode m_law.2.2.1 570 = .ok (.invokevirtual 76, 3) := by decide +kernel
theorem d_law_573 : decode m_law.2.2.1 573 = .ok (.aload_n 2, 1) := by decide +kernel
theorem d_law_574 : decode m_law.2.2.1 574 = .ok (.aload_n 0, 1) := by decide +kernel
theorem d_law_575 : decode m_law.2.2.1 575 = .ok (.iload_n 3, 1) := by decide +kernel
theorem d_law_576 : decode m_law.2.2.1 576 = .ok (.iconst 1, 1) := by decide +kernel
theorem d_law_577 : decode m_law.2.2.1 577 = .ok (.iadd, 1) := by decide +kernel
theorem d_law_578 : decode m_law.2.2.1 578 = .ok (.iaload, 1) := by decide +kernel
theorem d_law_579 : decode m_law.2.2.1 579 = .ok (.aload_n 0, 1) := by decide +kernel
theorem d_law_580 : decode m_law.2.2.1 580 = .ok (.iload_n 3, 1) := by decide +kernel
theorem d_law_581 : decode m_law.2.2.1 581 = .ok (.iconst 2, 1) := by decide +kernel
theorem d_law_582 : decode m_law.2.2.1 582 = .ok (.iadd, 1) := by decide +kernel
theorem d_law_583 : decode m_law.2.2.1 583 = .ok (.iaload, 1) := by decide +kernel
theorem d_law_584 : decode m_law.2.2.1 584 = .ok (.invokevirtual 79, 3) := by decide +kernel
theorem d_law_587 : decode m_law.2.2.1 587 = .ok (.if_icmp .eq 715, 3) := by decide +kernel
theorem d_law_590 : decode m_law.2.2.1 590 = .ok (.iconst 0, 1) := by decide +kernel
theorem d_law_591 : decode m_law.2.2.1 591 = .ok (.ireturn, 1) := by decide +kernel
theorem d_law_592 : decode m_law.2.2.1 592 = .ok (.aload_n 1, 1) := by decide +kernel
theorem d_law_593 : decode m_law.2.2.1 593 = .ok (.aload_n 0, 1) := by decide +kernel
theorem d_law_594 : decode m_law.2.2.1 594 = .ok (.iload_n 3, 1) := by decide +kernel
theorem d_law_595 : decode m_law.2.2.1 595 = .ok (.iconst 1, 1) := by decide +kernel
theorem d_law_596 : decode m_law.2.2.1 596 = .ok (.iadd, 1) := by decide +kernel
theorem d_law_597 : decode m_law.2.2.1 597 = .ok (.iaload, 1) := by decide +kernel
theorem d_law_598 : decode m_law.2.2.1 598 = .ok (.aload_n 0, 1) := by decide +kernel
theorem d_law_599 : decode m_law.2.2.1 599 = .ok (.iload_n 3, 1) := by decide +kernel
theorem d_law_600 : decode m_law.2.2.1 600 = .ok (.iconst 2, 1) := by decide +kernel
theorem d_law_601 : decode m_law.2.2.1 601 = .ok (.iadd, 1) := by decide +kernel
theorem d_law_602 : decode m_law.2.2.1 602 = .ok (.iaload, 1) := by decide +kernel
theorem d_law_603 : decode m_law.2.2.1 603 = .ok (.invokevirtual 80, 3) := by decide +kernel
theorem d_law_606 : decode m_law.2.2.1 606 = .ok (.aload_n 2, 1) := by decide +kernel
theorem d_law_607 : decode m_law.2.2.1 607 = .ok (.aload_n 0, 1) := by decide +kernel
theorem d_law_608 : decode m_law.2.2.1 608 = .ok (.iload_n 3, 1) := by decide +kernel
theorem d_law_609 : decode m_law.2.2.1 609 = .ok (.iconst 1, 1) := by decide +kernel
theorem d_law_610 : decode m_law.2.2.1 610 = .ok (.iadd, 1) := by decide +kernel
theorem d_law_611 : decode m_law.2.2.1 611 = .ok (.iaload, 1) := by decide +kernel
theorem d_law_612 : decode m_law.2.2.1 612 = .ok (.aload_n 0, 1) := by decide +kernel
theorem d_law_613 : decode m_law.2.2.1 613 = .ok (.iload_n 3, 1) := by decide +kernel
theorem d_law_614 : decode m_law.2.2.1 614 = .ok (.iconst 2, 1) := by decide +kernel
theorem d_law_615 : decode m_law.2.2.1 615 = .ok (.iadd, 1) := by decide +kernel
theorem d_law_616 : decode m_law.2.2.1 616 = .ok (.iaload, 1) := by decide +kernel
theorem d_law_617 : decode m_law.2.2.1 617 = .ok (.invokevirtual 83, 3) := by decide +kernel
theorem d_law_620 : decode m_law.2.2.1 620 = .ok (.if_icmp .eq 682, 3) := by decide +kernel
theorem d_law_623 : decode m_law.2.2.1 623 = .ok (.iconst 0, 1) := by decide +kernel
theorem d_law_624 : decode m_law.2.2.1 624 = .ok (.ireturn, 1) := by decide +kernel
theorem d_law_625 : decode m_law.2.2.1 625 = .ok (.aload_n 1, 1) := by decide +kernel
theorem d_law_626 : decode m_law.2.2.1 626 = .ok (.aload_n 0, 1) := by decide +kernel
theorem d_law_627 : decode m_law.2.2.1 627 = .ok (.iload_n 3, 1) := by decide +kernel
theorem d_law_628 : decode m_law.2.2.1 628 = .ok (.iconst 1, 1) := by decide +kernel
theorem d_law_629 : decode m_law.2.2.1 629 = .ok (.iadd, 1) := by decide +kernel
theorem d_law_630 : decode m_law.2.2.1 630 = .ok (.iaload, 1) := by decide +kernel
theorem d_law_631 : decode m_law.2.2.1 631 = .ok (.aload_n 0, 1) := by decide +kernel
theorem d_law_632 : decode m_law.2.2.1 632 = .ok (.iload_n 3, 1) := by decide +kernel
theorem d_law_633 : decode m_law.2.2.1 633 = .ok (.iconst 2, 1) := by decide +kernel
theorem d_law_634 : decode m_law.2.2.1 634 = .ok (.iadd, 1) := by decide +kernel
theorem d_law_635 : decode m_law.2.2.1 635 = .ok (.iaload, 1) := by decide +kernel
theorem d_law_636 : decode m_law.2.2.1 636 = .ok (.invokevirtual 84, 3) := by decide +kernel
theorem d_law_639 : decode m_law.2.2.1 639 = .ok (.aload_n 2, 1) := by decide +kernel
theorem d_law_640 : decode m_law.2.2.1 640 = .ok (.aload_n 0, 1) := by decide +kernel
theorem d_law_641 : decode m_law.2.2.1 641 = .ok (.iload_n 3, 1) := by decide +kernel
theorem d_law_642 : decode m_law.2.2.1 642 = .ok (.iconst 1, 1) := by decide +kernel
theorem d_law_643 : decode m_law.2.2.1 643 = .ok (.iadd, 1) := by decide +kernel
theorem d_law_644 : decode m_law.2.2.1 644 = .ok (.iaload, 1) := by decide +kernel
theorem d_law_645 : decode m_law.2.2.1 645 = .ok (.aload_n 0, 1) := by decide +kernel
theorem d_law_646 : decode m_law.2.2.1 646 = .ok (.iload_n 3, 1) := by decide +kernel
theorem d_law_647 : decode m_law.2.2.1 647 = .ok (.iconst 2, 1) := by decide +kernel
theorem d_law_648 : decode m_law.2.2.1 648 = .ok (.iadd, 1) := by decide +kernel
theorem d_law_649 : decode m_law.2.2.1 649 = .ok (.iaload, 1) := by decide +kernel
theorem d_law_650 : decode m_law.2.2.1 650 = .ok (.invokevirtual 87, 3) := by decide +kernel
theorem d_law_653 : decode m_law.2.2.1 653 = .ok (.if_icmp .eq 649, 3) := by decide +kernel
theorem d_law_656 : decode m_law.2.2.1 656 = .ok (.iconst 0, 1) := by decide +kernel
theorem d_law_657 : decode m_law.2.2.1 657 = .ok (.ireturn, 1) := by decide +kernel
theorem d_law_658 : decode m_law.2.2.1 658 = .ok (.aload_n 1, 1) := by decide +kernel
theorem d_law_659 : decode m_law.2.2.1 659 = .ok (.aload_n 0, 1) := by decide +kernel
theorem d_law_660 : decode m_law.2.2.1 660 = .ok (.iload_n 3, 1) := by decide +kernel
theorem d_law_661 : decode m_law.2.2.1 661 = .ok (.iconst 1, 1) := by decide +kernel
theorem d_law_662 : decode m_law.2.2.1 662 = .ok (.iadd, 1) := by decide +kernel
theorem d_law_663 : decode m_law.2.2.1 663 = .ok (.iaload, 1) := by decide +kernel
theorem d_law_664 : decode m_law.2.2.1 664 = .ok (.aload_n 0, 1) := by decide +kernel
theorem d_law_665 : decode m_law.2.2.1 665 = .ok (.iload_n 3, 1) := by decide +kernel
theorem d_law_666 : decode m_law.2.2.1 666 = .ok (.iconst 2, 1) := by decide +kernel
theorem d_law_667 : decode m_law.2.2.1 667 = .ok (.iadd, 1) := by decide +kernel
theorem d_law_668 : decode m_law.2.2.1 668 = .ok (.iaload, 1) := by decide +kernel
theorem d_law_669 : decode m_law.2.2.1 669 = .ok (.aload_n 0, 1) := by decide +kernel
theorem d_law_670 : decode m_law.2.2.1 670 = .ok (.iload_n 3, 1) := by decide +kernel
theorem d_law_671 : decode m_law.2.2.1 671 = .ok (.iconst 3, 1) := by decide +kernel
theorem d_law_672 : decode m_law.2.2.1 672 = .ok (.iadd, 1) := by decide +kernel
theorem d_law_673 : decode m_law.2.2.1 673 = .ok (.iaload, 1) := by decide +kernel
theorem d_law_674 : decode m_law.2.2.1 674 = .ok (.invokevirtual 88, 3) := by decide +kernel
theorem d_law_677 : decode m_law.2.2.1 677 = .ok (.aload_n 2, 1) := by decide +kernel
theorem d_law_678 : decode m_law.2.2.1 678 = .ok (.aload_n 0, 1) := by decide +kernel
theorem d_law_679 : decode m_law.2.2.1 679 = .ok (.iload_n 3, 1) := by decide +kernel
theorem d_law_680 : decode m_law.2.2.1 680 = .ok (.iconst 1, 1) := by decide +kernel
theorem d_law_681 : decode m_law.2.2.1 681 = .ok (.iadd, 1) := by decide +kernel
theorem d_law_682 : decode m_law.2.2.1 682 = .ok (.iaload, 1) := by decide +kernel
theorem d_law_683 : decode m_law.2.2.1 683 = .ok (.aload_n 0, 1) := by decide +kernel
theorem d_law_684 : decode m_law.2.2.1 684 = .ok (.iload_n 3, 1) := by decide +kernel
theorem d_law_685 : decode m_law.2.2.1 685 = .ok (.iconst 2, 1) := by decide +kernel
theorem d_law_686 : decode m_law.2.2.1 686 = .ok (.iadd, 1) := by decide +kernel
theorem d_law_687 : decode m_law.2.2.1 687 = .ok (.iaload, 1) := by decide +kernel
theorem d_law_688 : decode m_law.2.2.1 688 = .ok (.aload_n 0, 1) := by decide +kernel
theorem d_law_689 : decode m_law.2.2.1 689 = .ok (.iload_n 3, 1) := by decide +kernel
theorem d_law_690 : decode m_law.2.2.1 690 = .ok (.iconst 3, 1) := by decide +kernel
theorem d_law_691 : decode m_law.2.2.1 691 = .ok (.iadd, 1) := by decide +kernel
theorem d_law_692 : decode m_law.2.2.1 692 = .ok (.iaload, 1) := by decide +kernel
theorem d_law_693 : decode m_law.2.2.1 693 = .ok (.invokevirtual 92, 3) := by decide +kernel
theorem d_law_696 : decode m_law.2.2.1 696 = .ok (.if_icmp .eq 606, 3) := by decide +kernel
theorem d_law_699 : decode m_law.2.2.1 699 = .ok (.iconst 0, 1) := by decide +kernel
theorem d_law_700 : decode m_law.2.2.1 700 = .ok (.ireturn, 1) := by decide +kernel
theorem d_law_701 : decode m_law.2.2.1 701 = .ok (.aload_n 1, 1) := by decide +kernel
theorem d_law_702 : decode m_law.2.2.1 702 = .ok (.aload_n 0, 1) := by decide +kernel
theorem d_law_703 : decode m_law.2.2.1 703 = .ok (.iload_n 3, 1) := by decide +kernel
theorem d_law_704 : decode m_law.2.2.1 704 = .ok (.iconst 1, 1) := by decide +kernel
theorem d_law_705 : decode m_law.2.2.1 705 = .ok (.iadd, 1) := by decide +kernel
theorem d_law_706 : decode m_law.2.2.1 706 = .ok (.iaload, 1) := by decide +kernel
theorem d_law_707 : decode m_law.2.2.1 707 = .ok (.aload_n 0, 1) := by decide +kernel
theorem d_law_708 : decode m_law.2.2.1 708 = .ok (.iload_n 3, 1) := by decide +kernel
theorem d_law_709 : decode m_law.2.2.1 709 = .ok (.iconst 2, 1) := by decide +kernel
theorem d_law_710 : decode m_law.2.2.1 710 = .ok (.iadd, 1) := by decide +kernel
theorem d_law_711 : decode m_law.2.2.1 711 = .ok (.iaload, 1) := by decide +kernel
theorem d_law_712 : decode m_law.2.2.1 712 = .ok (.invokevirtual 93, 3) := by decide +kernel
theorem d_law_715 : decode m_law.2.2.1 715 = .ok (.aload_n 2, 1) := by decide +kernel
theorem d_law_716 : decode m_law.2.2.1 716 = .ok (.aload_n 0, 1) := by decide +kernel
theorem d_law_717 : decode m_law.2.2.1 717 = .ok (.iload_n 3, 1) := by decide +kernel
theorem d_law_718 : decode m_law.2.2.1 718 = .ok (.iconst 1, 1) := by decide +kernel
theorem d_law_719 : decode m_law.2.2.1 719 = .ok (.iadd, 1) := by decide +kernel
theorem d_law_720 : decode m_law.2.2.1 720 = .ok (.iaload, 1) := by decide +kernel
theorem d_law_721 : decode m_law.2.2.1 721 = .ok (.aload_n 0, 1) := by decide +kernel
theorem d_law_722 : decode m_law.2.2.1 722 = .ok (.iload_n 3, 1) := by decide +kernel
theorem d_law_723 : decode m_law.2.2.1 723 = .ok (.iconst 2, 1) := by decide +kernel
theorem d_law_724 : decode m_law.2.2.1 724 = .ok (.iadd, 1) := by decide +kernel
theorem d_law_725 : decode m_law.2.2.1 725 = .ok (.iaload, 1) := by decide +kernel
theorem d_law_726 : decode m_law.2.2.1 726 = .ok (.invokevirtual 96, 3) := by decide +kernel
theorem d_law_729 : decode m_law.2.2.1 729 = .ok (.if_icmp .eq 573, 3) := by decide +kernel
theorem d_law_732 : decode m_law.2.2.1 732 = .ok (.iconst 0, 1) := by decide +kernel
theorem d_law_733 : decode m_law.2.2.1 733 = .ok (.ireturn, 1) := by decide +kernel
theorem d_law_734 : decode m_law.2.2.1 734 = .ok (.aload_n 1, 1) := by decide +kernel
theorem d_law_735 : decode m_law.2.2.1 735 = .ok (.aload_n 0, 1) := by decide +kernel
theorem d_law_736 : decode m_law.2.2.1 736 = .ok (.iload_n 3, 1) := by decide +kernel
theorem d_law_737 : decode m_law.2.2.1 737 = .ok (.iconst 1, 1) := by decide +kernel
theorem d_law_738 : decode m_law.2.2.1 738 = .ok (.iadd, 1) := by decide +kernel
theorem d_law_739 : decode m_law.2.2.1 739 = .ok (.iaload, 1) := by decide +kernel
theorem d_law_740 : decode m_law.2.2.1 740 = .ok (.aload_n 0, 1) := by decide +kernel
theorem d_law_741 : decode m_law.2.2.1 741 = .ok (.iload_n 3, 1) := by decide +kernel
theorem d_law_742 : decode m_law.2.2.1 742 = .ok (.iconst 2, 1) := by decide +kernel
theorem d_law_743 : decode m_law.2.2.1 743 = .ok (.iadd, 1) := by decide +kernel
theorem d_law_744 : decode m_law.2.2.1 744 = .ok (.iaload, 1) := by decide +kernel
theorem d_law_745 : decode m_law.2.2.1 745 = .ok (.invokevirtual 97, 3) := by decide +kernel
theorem d_law_748 : decode m_law.2.2.1 748 = .ok (.aload_n 2, 1) := by decide +kernel
theorem d_law_749 : decode m_law.2.2.1 749 = .ok (.aload_n 0, 1) := by decide +kernel
theorem d_law_750 : decode m_law.2.2.1 750 = .ok (.iload_n 3, 1) := by decide +kernel
theorem d_law_751 : decode m_law.2.2.1 751 = .ok (.iconst 1, 1) := by decide +kernel
theorem d_law_752 : decode m_law.2.2.1 752 = .ok (.iadd, 1) := by decide +kernel
theorem d_law_753 : decode m_law.2.2.1 753 = .ok (.iaload, 1) := by decide +kernel
theorem d_law_754 : decode m_law.2.2.1 754 = .ok (.aload_n 0, 1) := by decide +kernel
theorem d_law_755 : decode m_law.2.2.1 755 = .ok (.iload_n 3, 1) := by decide +kernel
theorem d_law_756 : decode m_law.2.2.1 756 = .ok (.iconst 2, 1) := by decide +kernel
theorem d_law_757 : decode m_law.2.2.1 757 = .ok (.iadd, 1) := by decide +kernel
theorem d_law_758 : decode m_law.2.2.1 758 = .ok (.iaload, 1) := by decide +kernel
theorem d_law_759 : decode m_law.2.2.1 759 = .ok (.invokevirtual 100, 3) := by decide +kernel
theorem d_law_762 : decode m_law.2.2.1 762 = .ok (.if_icmp .eq 540, 3) := by decide +kernel
theorem d_law_765 : decode m_law.2.2.1 765 = .ok (.iconst 0, 1) := by decide +kernel
theorem d_law_766 : decode m_law.2.2.1 766 = .ok (.ireturn, 1) := by decide +kernel
theorem d_law_767 : decode m_law.2.2.1 767 = .ok (.aload_n 1, 1) := by decide +kernel
theorem d_law_768 : decode m_law.2.2.1 768 = .ok (.aload_n 0, 1) := by decide +kernel
theorem d_law_769 : decode m_law.2.2.1 769 = .ok (.iload_n 3, 1) := by decide +kernel
theorem d_law_770 : decode m_law.2.2.1 770 = .ok (.iconst 1, 1) := by decide +kernel
theorem d_law_771 : decode m_law.2.2.1 771 = .ok (.iadd, 1) := by decide +kernel
theorem d_law_772 : decode m_law.2.2.1 772 = .ok (.iaload, 1) := by decide +kernel
theorem d_law_773 : decode m_law.2.2.1 773 = .ok (.invokevirtual 101, 3) := by decide +kernel
theorem d_law_776 : decode m_law.2.2.1 776 = .ok (.aload_n 2, 1) := by decide +kernel
theorem d_law_777 : decode m_law.2.2.1 777 = .ok (.aload_n 0, 1) := by decide +kernel
theorem d_law_778 : decode m_law.2.2.1 778 = .ok (.iload_n 3, 1) := by decide +kernel
theorem d_law_779 : decode m_law.2.2.1 779 = .ok (.iconst 1, 1) := by decide +kernel
theorem d_law_780 : decode m_law.2.2.1 780 = .ok (.iadd, 1) := by decide +kernel
theorem d_law_781 : decode m_law.2.2.1 781 = .ok (.iaload, 1) := by decide +kernel
theorem d_law_782 : decode m_law.2.2.1 782 = .ok (.invokevirtual 104, 3) := by decide +kernel
theorem d_law_785 : decode m_law.2.2.1 785 = .ok (.if_icmp .eq 517, 3) := by decide +kernel
theorem d_law_788 : decode m_law.2.2.1 788 = .ok (.iconst 0, 1) := by decide +kernel
theorem d_law_789 : decode m_law.2.2.1 789 = .ok (.ireturn, 1) := by decide +kernel
theorem d_law_790 : decode m_law.2.2.1 790 = .ok (.aload_n 1, 1) := by decide +kernel
theorem d_law_791 : decode m_law.2.2.1 791 = .ok (.aload_n 0, 1) := by decide +kernel
theorem d_law_792 : decode m_law.2.2.1 792 = .ok (.iload_n 3, 1) := by decide +kernel
theorem d_law_793 : decode m_law.2.2.1 793 = .ok (.iconst 1, 1) := by decide +kernel
theorem d_law_794 : decode m_law.2.2.1 794 = .ok (.iadd, 1) := by decide +kernel
theorem d_law_795 : decode m_law.2.2.1 795 = .ok (.iaload, 1) := by decide +kernel
theorem d_law_796 : decode m_law.2.2.1 796 = .ok (.aload_n 0, 1) := by decide +kernel
theorem d_law_797 : decode m_law.2.2.1 797 = .ok (.iload_n 3, 1) := by decide +kernel
theorem d_law_798 : decode m_law.2.2.1 798 = .ok (.iconst 2, 1) := by decide +kernel
theorem d_law_799 : decode m_law.2.2.1 799 = .ok (.iadd, 1) := by decide +kernel
theorem d_law_800 : decode m_law.2.2.1 800 = .ok (.iaload, 1) := by decide +kernel
theorem d_law_801 : decode m_law.2.2.1 801 = .ok (.invokevirtual 105, 3) := by decide +kernel
theorem d_law_804 : decode m_law.2.2.1 804 = .ok (.aload_n 2, 1) := by decide +kernel
theorem d_law_805 : decode m_law.2.2.1 805 = .ok (.aload_n 0, 1) := by decide +kernel
theorem d_law_806 : decode m_law.2.2.1 806 = .ok (.iload_n 3, 1) := by decide +kernel
theorem d_law_807 : decode m_law.2.2.1 807 = .ok (.iconst 1, 1) := by decide +kernel
theorem d_law_808 : decode m_law.2.2.1 808 = .ok (.iadd, 1) := by decide +kernel
theorem d_law_809 : decode m_law.2.2.1 809 = .ok (.iaload, 1) := by decide +kernel
theorem d_law_810 : decode m_law.2.2.1 810 = .ok (.aload_n 0, 1) := by decide +kernel
theorem d_law_811 : decode m_law.2.2.1 811 = .ok (.iload_n 3, 1) := by decide +kernel
theorem d_law_812 : decode m_law.2.2.1 812 = .ok (.iconst 2, 1) := by decide +kernel
theorem d_law_813 : decode m_law.2.2.1 813 = .ok (.iadd, 1) := by decide +kernel
theorem d_law_814 : decode m_law.2.2.1 814 = .ok (.iaload, 1) := by decide +kernel
theorem d_law_815 : decode m_law.2.2.1 815 = .ok (.invokevirtual 108, 3) := by decide +kernel
theorem d_law_818 : decode m_law.2.2.1 818 = .ok (.if_icmp .eq 484, 3) := by decide +kernel
theorem d_law_821 : decode m_law.2.2.1 821 = .ok (.iconst 0, 1) := by decide +kernel
theorem d_law_822 : decode m_law.2.2.1 822 = .ok (.ireturn, 1) := by decide +kernel
theorem d_law_823 : decode m_law.2.2.1 823 = .ok (.aload_n 1, 1) := by decide +kernel
theorem d_law_824 : decode m_law.2.2.1 824 = .ok (.aload_n 0, 1) := by decide +kernel
theorem d_law_825 : decode m_law.2.2.1 825 = .ok (.iload_n 3, 1) := by decide +kernel
theorem d_law_826 : decode m_law.2.2.1 826 = .ok (.iconst 1, 1) := by decide +kernel
theorem d_law_827 : decode m_law.2.2.1 827 = .ok (.iadd, 1) := by decide +kernel
theorem d_law_828 : decode m_law.2.2.1 828 = .ok (.iaload, 1) := by decide +kernel
theorem d_law_829 : decode m_law.2.2.1 829 = .ok (.aload_n 0, 1) := by decide +kernel
theorem d_law_830 : decode m_law.2.2.1 830 = .ok (.iload_n 3, 1) := by decide +kernel
theorem d_law_831 : decode m_law.2.2.1 831 = .ok (.iconst 2, 1) := by decide +kernel
theorem d_law_832 : decode m_law.2.2.1 832 = .ok (.iadd, 1) := by decide +kernel
theorem d_law_833 : decode m_law.2.2.1 833 = .ok (.iaload, 1) := by decide +kernel
theorem d_law_834 : decode m_law.2.2.1 834 = .ok (.invokevirtual 109, 3) := by decide +kernel
theorem d_law_837 : decode m_law.2.2.1 837 = .ok (.aload_n 2, 1) := by decide +kernel
theorem d_law_838 : decode m_law.2.2.1 838 = .ok (.aload_n 0, 1) := by decide +kernel
theorem d_law_839 : decode m_law.2.2.1 839 = .ok (.iload_n 3, 1) := by decide +kernel
theorem d_law_840 : decode m_law.2.2.1 840 = .ok (.iconst 1, 1) := by decide +kernel
theorem d_law_841 : decode m_law.2.2.1 841 = .ok (.iadd, 1) := by decide +kernel
theorem d_law_842 : decode m_law.2.2.1 842 = .ok (.iaload, 1) := by decide +kernel
theorem d_law_843 : decode m_law.2.2.1 843 = .ok (.aload_n 0, 1) := by decide +kernel
theorem d_law_844 : decode m_law.2.2.1 844 = .ok (.iload_n 3, 1) := by decide +kernel
theorem d_law_845 : decode m_law.2.2.1 845 = .ok (.iconst 2, 1) := by decide +kernel
theorem d_law_846 : decode m_law.2.2.1 846 = .ok (.iadd, 1) := by decide +kernel
theorem d_law_847 : decode m_law.2.2.1 847 = .ok (.iaload, 1) := by decide +kernel
theorem d_law_848 : decode m_law.2.2.1 848 = .ok (.invokevirtual 112, 3) := by decide +kernel
theorem d_law_851 : decode m_law.2.2.1 851 = .ok (.if_icmp .eq 451, 3) := by decide +kernel
theorem d_law_854 : decode m_law.2.2.1 854 = .ok (.iconst 0, 1) := by decide +kernel
theorem d_law_855 : decode m_law.2.2.1 855 = .ok (.ireturn, 1) := by decide +kernel
theorem d_law_856 : decode m_law.2.2.1 856 = .ok (.aload_n 1, 1) := by decide +kernel
theorem d_law_857 : decode m_law.2.2.1 857 = .ok (.aload_n 0, 1) := by decide +kernel
theorem d_law_858 : decode m_law.2.2.1 858 = .ok (.iload_n 3, 1) := by decide +kernel
theorem d_law_859 : decode m_law.2.2.1 859 = .ok (.iconst 1, 1) := by decide +kernel
theorem d_law_860 : decode m_law.2.2.1 860 = .ok (.iadd, 1) := by decide +kernel
theorem d_law_861 : decode m_law.2.2.1 861 = .ok (.iaload, 1) := by decide +kernel
theorem d_law_862 : decode m_law.2.2.1 862 = .ok (.aload_n 0, 1) := by decide +kernel
theorem d_law_863 : decode m_law.2.2.1 863 = .ok (.iload_n 3, 1) := by decide +kernel
theorem d_law_864 : decode m_law.2.2.1 864 = .ok (.iconst 2, 1) := by decide +kernel
theorem d_law_865 : decode m_law.2.2.1 865 = .ok (.iadd, 1) := by decide +kernel
theorem d_law_866 : decode m_law.2.2.1 866 = .ok (.iaload, 1) := by decide +kernel
theorem d_law_867 : decode m_law.2.2.1 867 = .ok (.aload_n 0, 1) := by decide +kernel
theorem d_law_868 : decode m_law.2.2.1 868 = .ok (.iload_n 3, 1) := by decide +kernel
theorem d_law_869 : decode m_law.2.2.1 869 = .ok (.iconst 3, 1) := by decide +kernel
theorem d_law_870 : decode m_law.2.2.1 870 = .ok (.iadd, 1) := by decide +kernel
theorem d_law_871 : decode m_law.2.2.1 871 = .ok (.iaload, 1) := by decide +kernel
theorem d_law_872 : decode m_law.2.2.1 872 = .ok (.invokevirtual 113, 3) := by decide +kernel
theorem d_law_875 : decode m_law.2.2.1 875 = .ok (.aload_n 2, 1) := by decide +kernel
theorem d_law_876 : decode m_law.2.2.1 876 = .ok (.aload_n 0, 1) := by decide +kernel
theorem d_law_877 : decode m_law.2.2.1 877 = .ok (.iload_n 3, 1) := by decide +kernel
theorem d_law_878 : decode m_law.2.2.1 878 = .ok (.iconst 1, 1) := by decide +kernel
theorem d_law_879 : decode m_law.2.2.1 879 = .ok (.iadd, 1) := by decide +kernel
theorem d_law_880 : decode m_law.2.2.1 880 = .ok (.iaload, 1) := by decide +kernel
theorem d_law_881 : decode m_law.2.2.1 881 = .ok (.aload_n 0, 1) := by decide +kernel
theorem d_law_882 : decode m_law.2.2.1 882 = .ok (.iload_n 3, 1) := by decide +kernel
theorem d_law_883 : decode m_law.2.2.1 883 = .ok (.iconst 2, 1) := by decide +kernel
theorem d_law_884 : decode m_law.2.2.1 884 = .ok (.iadd, 1) := by decide +kernel
theorem d_law_885 : decode m_law.2.2.1 885 = .ok (.iaload, 1) := by decide +kernel
theorem d_law_886 : decode m_law.2.2.1 886 = .ok (.aload_n 0, 1) := by decide +kernel
theorem d_law_887 : decode m_law.2.2.1 887 = .ok (.iload_n 3, 1) := by decide +kernel
theorem d_law_888 : decode m_law.2.2.1 888 = .ok (.iconst 3, 1) := by decide +kernel
theorem d_law_889 : decode m_law.2.2.1 889 = .ok (.iadd, 1) := by decide +kernel
theorem d_law_890 : decode m_law.2.2.1 890 = .ok (.iaload, 1) := by decide +kernel
theorem d_law_891 : decode m_law.2.2.1 891 = .ok (.invokevirtual 116, 3) := by decide +kernel
theorem d_law_894 : decode m_law.2.2.1 894 = .ok (.if_icmp .eq 408, 3) := by decide +kernel
theorem d_law_897 : decode m_law.2.2.1 897 = .ok (.iconst 0, 1) := by decide +kernel
theorem d_law_898 : decode m_law.2.2.1 898 = .ok (.ireturn, 1) := by decide +kernel
theorem d_law_899 : decode m_law.2.2.1 899 = .ok (.aload_n 1, 1) := by decide +kernel
theorem d_law_900 : decode m_law.2.2.1 900 = .ok (.aload_n 0, 1) := by decide +kernel
theorem d_law_901 : decode m_law.2.2.1 901 = .ok (.iload_n 3, 1) := by decide +kernel
theorem d_law_902 : decode m_law.2.2.1 902 = .ok (.iconst 1, 1) := by decide +kernel
theorem d_law_903 : decode m_law.2.2.1 903 = .ok (.iadd, 1) := by decide +kernel
theorem d_law_904 : decode m_law.2.2.1 904 = .ok (.iaload, 1) := by decide +kernel
theorem d_law_905 : decode m_law.2.2.1 905 = .ok (.invokevirtual 117, 3) := by decide +kernel
theorem d_law_908 : decode m_law.2.2.1 908 = .ok (.aload_n 2, 1) := by decide +kernel
theorem d_law_909 : decode m_law.2.2.1 909 = .ok (.aload_n 0, 1) := by decide +kernel
theorem d_law_910 : decode m_law.2.2.1 910 = .ok (.iload_n 3, 1) := by decide +kernel
theorem d_law_911 : decode m_law.2.2.1 911 = .ok (.iconst 1, 1) := by decide +kernel
theorem d_law_912 : decode m_law.2.2.1 912 = .ok (.iadd, 1) := by decide +kernel
theorem d_law_913 : decode m_law.2.2.1 913 = .ok (.iaload, 1) := by decide +kernel
theorem d_law_914 : decode m_law.2.2.1 914 = .ok (.invokevirtual 120, 3) := by decide +kernel
theorem d_law_917 : decode m_law.2.2.1 917 = .ok (.if_icmp .eq 385, 3) := by decide +kernel
theorem d_law_920 : decode m_law.2.2.1 920 = .ok (.iconst 0, 1) := by decide +kernel
theorem d_law_921 : decode m_law.2.2.1 921 = .ok (.ireturn, 1) := by decide +kernel
theorem d_law_922 : decode m_law.2.2.1 922 = .ok (.aload_n 1, 1) := by decide +kernel
theorem d_law_923 : decode m_law.2.2.1 923 = .ok (.aload_n 0, 1) := by decide +kernel
theorem d_law_924 : decode m_law.2.2.1 924 = .ok (.iload_n 3, 1) := by decide +kernel
theorem d_law_925 : decode m_law.2.2.1 925 = .ok (.iconst 1, 1) := by decide +kernel
theorem d_law_926 : decode m_law.2.2.1 926 = .ok (.iadd, 1) := by decide +kernel
theorem d_law_927 : decode m_law.2.2.1 927 = .ok (.iaload, 1) := by decide +kernel
theorem d_law_928 : decode m_law.2.2.1 928 = .ok (.invokevirtual 121, 3) := by decide +kernel
theorem d_law_931 : decode m_law.2.2.1 931 = .ok (.aload_n 2, 1) := by decide +kernel
theorem d_law_932 : decode m_law.2.2.1 932 = .ok (.aload_n 0, 1) := by decide +kernel
theorem d_law_933 : decode m_law.2.2.1 933 = .ok (.iload_n 3, 1) := by decide +kernel
theorem d_law_934 : decode m_law.2.2.1 934 = .ok (.iconst 1, 1) := by decide +kernel
theorem d_law_935 : decode m_law.2.2.1 935 = .ok (.iadd, 1) := by decide +kernel
theorem d_law_936 : decode m_law.2.2.1 936 = .ok (.iaload, 1) := by decide +kernel
theorem d_law_937 : decode m_law.2.2.1 937 = .ok (.invokevirtual 124, 3) := by decide +kernel
theorem d_law_940 : decode m_law.2.2.1 940 = .ok (.if_icmp .eq 362, 3) := by decide +kernel
theorem d_law_943 : decode m_law.2.2.1 943 = .ok (.iconst 0, 1) := by decide +kernel
theorem d_law_944 : decode m_law.2.2.1 944 = .ok (.ireturn, 1) := by decide +kernel
theorem d_law_945 : decode m_law.2.2.1 945 = .ok (.aload_n 1, 1) := by decide +kernel
theorem d_law_946 : decode m_law.2.2.1 946 = .ok (.aload_n 0, 1) := by decide +kernel
theorem d_law_947 : decode m_law.2.2.1 947 = .ok (.iload_n 3, 1) := by decide +kernel
theorem d_law_948 : decode m_law.2.2.1 948 = .ok (.iconst 1, 1) := by decide +kernel
theorem d_law_949 : decode m_law.2.2.1 949 = .ok (.iadd, 1) := by decide +kernel
theorem d_law_950 : decode m_law.2.2.1 950 = .ok (.iaload, 1) := by decide +kernel
theorem d_law_951 : decode m_law.2.2.1 951 = .ok (.aload_n 0, 1) := by decide +kernel
theorem d_law_952 : decode m_law.2.2.1 952 = .ok (.iload_n 3, 1) := by decide +kernel
theorem d_law_953 : decode m_law.2.2.1 953 = .ok (.iconst 2, 1) := by decide +kernel
theorem d_law_954 : decode m_law.2.2.1 954 = .ok (.iadd, 1) := by decide +kernel
theorem d_law_955 : decode m_law.2.2.1 955 = .ok (.iaload, 1) := by decide +kernel
theorem d_law_956 : decode m_law.2.2.1 956 = .ok (.invokevirtual 125, 3) := by decide +kernel
theorem d_law_959 : decode m_law.2.2.1 959 = .ok (.aload_n 2, 1) := by decide +kernel
theorem d_law_960 : decode m_law.2.2.1 960 = .ok (.aload_n 0, 1) := by decide +kernel
theorem d_law_961 : decode m_law.2.2.1 961 = .ok (.iload_n 3, 1) := by decide +kernel
theorem d_law_962 : decode m_law.2.2.1 962 = .ok (.iconst 1, 1) := by decide +kernel
theorem d_law_963 : decode m_law.2.2.1 963 = .ok (.iadd, 1) := by decide +kernel
theorem d_law_964 : decode m_law.2.2.1 964 = .ok (.iaload, 1) := by decide +kernel
theorem d_law_965 : decode m_law.2.2.1 965 = .ok (.aload_n 0, 1) := by decide +kernel
theorem d_law_966 : decode m_law.2.2.1 966 = .ok (.iload_n 3, 1) := by decide +kernel
theorem d_law_967 : decode m_law.2.2.1 967 = .ok (.iconst 2, 1) := by decide +kernel
theorem d_law_968 : decode m_law.2.2.1 968 = .ok (.iadd, 1) := by decide +kernel
theorem d_law_969 : decode m_law.2.2.1 969 = .ok (.iaload, 1) := by decide +kernel
theorem d_law_970 : decode m_law.2.2.1 970 = .ok (.invokevirtual 128, 3) := by decide +kernel
theorem d_law_973 : decode m_law.2.2.1 973 = .ok (.if_icmp .eq 329, 3) := by decide +kernel
theorem d_law_976 : decode m_law.2.2.1 976 = .ok (.iconst 0, 1) := by decide +kernel
theorem d_law_977 : decode m_law.2.2.1 977 = .ok (.ireturn, 1) := by decide +kernel
theorem d_law_978 : decode m_law.2.2.1 978 = .ok (.aload_n 1, 1) := by decide +kernel
theorem d_law_979 : decode m_law.2.2.1 979 = .ok (.aload_n 0, 1) := by decide +kernel
theorem d_law_980 : decode m_law.2.2.1 980 = .ok (.iload_n 3, 1) := by decide +kernel
theorem d_law_981 : decode m_law.2.2.1 981 = .ok (.iconst 1, 1) := by decide +kernel
theorem d_law_982 : decode m_law.2.2.1 982 = .ok (.iadd, 1) := by decide +kernel
theorem d_law_983 : decode m_law.2.2.1 983 = .ok (.iaload, 1) := by decide +kernel
theorem d_law_984 : decode m_law.2.2.1 984 = .ok (.aload_n 0, 1) := by decide +kernel
theorem d_law_985 : decode m_law.2.2.1 985 = .ok (.iload_n 3, 1) := by decide +kernel
theorem d_law_986 : decode m_law.2.2.1 986 = .ok (.iconst 2, 1) := by decide +kernel
theorem d_law_987 : decode m_law.2.2.1 987 = .ok (.iadd, 1) := by decide +kernel
theorem d_law_988 : decode m_law.2.2.1 988 = .ok (.iaload, 1) := by decide +kernel
theorem d_law_989 : decode m_law.2.2.1 989 = .ok (.invokevirtual 129, 3) := by decide +kernel
theorem d_law_992 : decode m_law.2.2.1 992 = .ok (.aload_n 2, 1) := by decide +kernel
theorem d_law_993 : decode m_law.2.2.1 993 = .ok (.aload_n 0, 1) := by decide +kernel
theorem d_law_994 : decode m_law.2.2.1 994 = .ok (.iload_n 3, 1) := by decide +kernel
theorem d_law_995 : decode m_law.2.2.1 995 = .ok (.iconst 1, 1) := by decide +kernel
theorem d_law_996 : decode m_law.2.2.1 996 = .ok (.iadd, 1) := by decide +kernel
theorem d_law_997 : decode m_law.2.2.1 997 = .ok (.iaload, 1) := by decide +kernel
theorem d_law_998 : decode m_law.2.2.1 998 = .ok (.aload_n 0, 1) := by decide +kernel
theorem d_law_999 : decode m_law.2.2.1 999 = .ok (.iload_n 3, 1) := by decide +kernel
theorem d_law_1000 : decode m_law.2.2.1 1000 = .ok (.iconst 2, 1) := by decide +kernel
theorem d_law_1001 : decode m_law.2.2.1 1001 = .ok (.iadd, 1) := by decide +kernel
theorem d_law_1002 : decode m_law.2.2.1 1002 = .ok (.iaload, 1) := by decide +kernel
theorem d_law_1003 : decode m_law.2.2.1 1003 = .ok (.invokevirtual 132, 3) := by decide +kernel
theorem d_law_1006 : decode m_law.2.2.1 1006 = .ok (.if_icmp .eq 296, 3) := by decide +kernel
theorem d_law_1009 : decode m_law.2.2.1 1009 = .ok (.iconst 0, 1) := by decide +kernel
theorem d_law_1010 : decode m_law.2.2.1 1010 = .ok (.ireturn, 1) := by decide +kernel
theorem d_law_1011 : decode m_law.2.2.1 1011 = .ok (.aload_n 1, 1) := by decide +kernel
theorem d_law_1012 : decode m_law.2.2.1 1012 = .ok (.aload_n 0, 1) := by decide +kernel
theorem d_law_1013 : decode m_law.2.2.1 1013 = .ok (.iload_n 3, 1) := by decide +kernel
theorem d_law_1014 : decode m_law.2.2.1 1014 = .ok (.iconst 1, 1) := by decide +kernel
theorem d_law_1015 : decode m_law.2.2.1 1015 = .ok (.iadd, 1) := by decide +kernel
theorem d_law_1016 : decode m_law.2.2.1 1016 = .ok (.iaload, 1) := by decide +kernel
theorem d_law_1017 : decode m_law.2.2.1 1017 = .ok (.aload_n 0, 1) := by decide +kernel
theorem d_law_1018 : decode m_law.2.2.1 1018 = .ok (.iload_n 3, 1) := by decide +kernel
theorem d_law_1019 : decode m_law.2.2.1 1019 = .ok (.iconst 2, 1) := by decide +kernel
theorem d_law_1020 : decode m_law.2.2.1 1020 = .ok (.iadd, 1) := by decide +kernel
theorem d_law_1021 : decode m_law.2.2.1 1021 = .ok (.iaload, 1) := by decide +kernel
theorem d_law_1022 : decode m_law.2.2.1 1022 = .ok (.invokevirtual 133, 3) := by decide +kernel
theorem d_law_1025 : decode m_law.2.2.1 1025 = .ok (.aload_n 2, 1) := by decide +kernel
theorem d_law_1026 : decode m_law.2.2.1 1026 = .ok (.aload_n 0, 1) := by decide +kernel
theorem d_law_1027 : decode m_law.2.2.1 1027 = .ok (.iload_n 3, 1) := by decide +kernel
theorem d_law_1028 : decode m_law.2.2.1 1028 = .ok (.iconst 1, 1) := by decide +kernel
theorem d_law_1029 : decode m_law.2.2.1 1029 = .ok (.iadd, 1) := by decide +kernel
theorem d_law_1030 : decode m_law.2.2.1 1030 = .ok (.iaload, 1) := by decide +kernel
theorem d_law_1031 : decode m_law.2.2.1 1031 = .ok (.aload_n 0, 1) := by decide +kernel
theorem d_law_1032 : decode m_law.2.2.1 1032 = .ok (.iload_n 3, 1) := by decide +kernel
theorem d_law_1033 : decode m_law.2.2.1 1033 = .ok (.iconst 2, 1) := by decide +kernel
theorem d_law_1034 : decode m_law.2.2.1 1034 = .ok (.iadd, 1) := by decide +kernel
theorem d_law_1035 : decode m_law.2.2.1 1035 = .ok (.iaload, 1) := by decide +kernel
theorem d_law_1036 : decode m_law.2.2.1 1036 = .ok (.invokevirtual 136, 3) := by decide +kernel
theorem d_law_1039 : decode m_law.2.2.1 1039 = .ok (.if_icmp .eq 263, 3) := by decide +kernel
theorem d_law_1042 : decode m_law.2.2.1 1042 = .ok (.iconst 0, 1) := by decide +kernel
theorem d_law_1043 : decode m_law.2.2.1 1043 = .ok (.ireturn, 1) := by decide +kernel
theorem d_law_1044 : decode m_law.2.2.1 1044 = .ok (.aload_n 1, 1) := by decide +kernel
theorem d_law_1045 : decode m_law.2.2.1 1045 = .ok (.aload_n 0, 1) := by decide +kernel
theorem d_law_1046 : decode m_law.2.2.1 1046 = .ok (.iload_n 3, 1) := by decide +kernel
theorem d_law_1047 : decode m_law.2.2.1 1047 = .ok (.iconst 1, 1) := by decide +kernel
theorem d_law_1048 : decode m_law.2.2.1 1048 = .ok (.iadd, 1) := by decide +kernel
theorem d_law_1049 : decode m_law.2.2.1 1049 = .ok (.iaload, 1) := by decide +kernel
theorem d_law_1050 : decode m_law.2.2.1 1050 = .ok (.aload_n 0, 1) := by decide +kernel
theorem d_law_1051 : decode m_law.2.2.1 1051 = .ok (.iload_n 3, 1) := by decide +kernel
theorem d_law_1052 : decode m_law.2.2.1 1052 = .ok (.iconst 2, 1) := by decide +kernel
theorem d_law_1053 : decode m_law.2.2.1 1053 = .ok (.iadd, 1) := by decide +kernel
theorem d_law_1054 : decode m_law.2.2.1 1054 = .ok (.iaload, 1) := by decide +kernel
theorem d_law_1055 : decode m_law.2.2.1 1055 = .ok (.invokevirtual 137, 3) := by decide +kernel
theorem d_law_1058 : decode m_law.2.2.1 1058 = .ok (.aload_n 2, 1) := by decide +kernel
theorem d_law_1059 : decode m_law.2.2.1 1059 = .ok (.aload_n 0, 1) := by decide +kernel
theorem d_law_1060 : decode m_law.2.2.1 1060 = .ok (.iload_n 3, 1) := by decide +kernel
theorem d_law_1061 : decode m_law.2.2.1 1061 = .ok (.iconst 1, 1) := by decide +kernel
theorem d_law_1062 : decode m_law.2.2.1 1062 = .ok (.iadd, 1) := by decide +kernel
theorem d_law_1063 : decode m_law.2.2.1 1063 = .ok (.iaload, 1) := by decide +kernel
theorem d_law_1064 : decode m_law.2.2.1 1064 = .ok (.aload_n 0, 1) := by decide +kernel
theorem d_law_1065 : decode m_law.2.2.1 1065 = .ok (.iload_n 3, 1) := by decide +kernel
theorem d_law_1066 : decode m_law.2.2.1 1066 = .ok (.iconst 2, 1) := by decide +kernel
theorem d_law_1067 : decode m_law.2.2.1 1067 = .ok (.iadd, 1) := by decide +kernel
theorem d_law_1068 : decode m_law.2.2.1 1068 = .ok (.iaload, 1) := by decide +kernel
theorem d_law_1069 : decode m_law.2.2.1 1069 = .ok (.invokevirtual 140, 3) := by decide +kernel
theorem d_law_1072 : decode m_law.2.2.1 1072 = .ok (.if_icmp .eq 230, 3) := by decide +kernel
theorem d_law_1075 : decode m_law.2.2.1 1075 = .ok (.iconst 0, 1) := by decide +kernel
theorem d_law_1076 : decode m_law.2.2.1 1076 = .ok (.ireturn, 1) := by decide +kernel
theorem d_law_1077 : decode m_law.2.2.1 1077 = .ok (.aload_n 1, 1) := by decide +kernel
theorem d_law_1078 : decode m_law.2.2.1 1078 = .ok (.aload_n 0, 1) := by decide +kernel
theorem d_law_1079 : decode m_law.2.2.1 1079 = .ok (.iload_n 3, 1) := by decide +kernel
theorem d_law_1080 : decode m_law.2.2.1 1080 = .ok (.iconst 1, 1) := by decide +kernel
theorem d_law_1081 : decode m_law.2.2.1 1081 = .ok (.iadd, 1) := by decide +kernel
theorem d_law_1082 : decode m_law.2.2.1 1082 = .ok (.iaload, 1) := by decide +kernel
theorem d_law_1083 : decode m_law.2.2.1 1083 = .ok (.invokevirtual 141, 3) := by decide +kernel
theorem d_law_1086 : decode m_law.2.2.1 1086 = .ok (.aload_n 2, 1) := by decide +kernel
theorem d_law_1087 : decode m_law.2.2.1 1087 = .ok (.aload_n 0, 1) := by decide +kernel
theorem d_law_1088 : decode m_law.2.2.1 1088 = .ok (.iload_n 3, 1) := by decide +kernel
theorem d_law_1089 : decode m_law.2.2.1 1089 = .ok (.iconst 1, 1) := by decide +kernel
theorem d_law_1090 : decode m_law.2.2.1 1090 = .ok (.iadd, 1) := by decide +kernel
theorem d_law_1091 : decode m_law.2.2.1 1091 = .ok (.iaload, 1) := by decide +kernel
theorem d_law_1092 : decode m_law.2.2.1 1092 = .ok (.invokevirtual 144, 3) := by decide +kernel
theorem d_law_1095 : decode m_law.2.2.1 1095 = .ok (.if_icmp .eq 207, 3) := by decide +kernel
theorem d_law_1098 : decode m_law.2.2.1 1098 = .ok (.iconst 0, 1) := by decide +kernel
theorem d_law_1099 : decode m_law.2.2.1 1099 = .ok (.ireturn, 1) := by decide +kernel
theorem d_law_1100 : decode m_law.2.2.1 1100 = .ok (.aload_n 1, 1) := by decide +kernel
theorem d_law_1101 : decode m_law.2.2.1 1101 = .ok (.aload_n 0, 1) := by decide +kernel
theorem d_law_1102 : decode m_law.2.2.1 1102 = .ok (.iload_n 3, 1) := by decide +kernel
theorem d_law_1103 : decode m_law.2.2.1 1103 = .ok (.iconst 1, 1) := by decide +kernel
theorem d_law_1104 : decode m_law.2.2.1 1104 = .ok (.iadd, 1) := by decide +kernel
theorem d_law_1105 : decode m_law.2.2.1 1105 = .ok (.iaload, 1) := by decide +kernel
theorem d_law_1106 : decode m_law.2.2.1 1106 = .ok (.invokevirtual 145, 3) := by decide +kernel
theorem d_law_1109 : decode m_law.2.2.1 1109 = .ok (.aload_n 2, 1) := by decide +kernel
theorem d_law_1110 : decode m_law.2.2.1 1110 = .ok (.aload_n 0, 1) := by decide +kernel
theorem d_law_1111 : decode m_law.2.2.1 1111 = .ok (.iload_n 3, 1) := by decide +kernel
theorem d_law_1112 : decode m_law.2.2.1 1112 = .ok (.iconst 1, 1) := by decide +kernel
theorem d_law_1113 : decode m_law.2.2.1 1113 = .ok (.iadd, 1) := by decide +kernel
theorem d_law_1114 : decode m_law.2.2.1 1114 = .ok (.iaload, 1) := by decide +kernel
theorem d_law_1115 : decode m_law.2.2.1 1115 = .ok (.invokevirtual 149, 3) := by decide +kernel
theorem d_law_1118 : decode m_law.2.2.1 1118 = .ok (.lcmp, 1) := by decide +kernel
theorem d_law_1119 : decode m_law.2.2.1 1119 = .ok (.ifCond .eq 183, 3) := by decide +kernel
theorem d_law_1122 : decode m_law.2.2.1 1122 = .ok (.iconst 0, 1) := by decide +kernel
theorem d_law_1123 : decode m_law.2.2.1 1123 = .ok (.ireturn, 1) := by decide +kernel
theorem d_law_1124 : decode m_law.2.2.1 1124 = .ok (.aload_n 1, 1) := by decide +kernel
theorem d_law_1125 : decode m_law.2.2.1 1125 = .ok (.aload_n 0, 1) := by decide +kernel
theorem d_law_1126 : decode m_law.2.2.1 1126 = .ok (.iload_n 3, 1) := by decide +kernel
theorem d_law_1127 : decode m_law.2.2.1 1127 = .ok (.iconst 1, 1) := by decide +kernel
theorem d_law_1128 : decode m_law.2.2.1 1128 = .ok (.iadd, 1) := by decide +kernel
theorem d_law_1129 : decode m_law.2.2.1 1129 = .ok (.iaload, 1) := by decide +kernel
theorem d_law_1130 : decode m_law.2.2.1 1130 = .ok (.aload_n 0, 1) := by decide +kernel
theorem d_law_1131 : decode m_law.2.2.1 1131 = .ok (.iload_n 3, 1) := by decide +kernel
theorem d_law_1132 : decode m_law.2.2.1 1132 = .ok (.iconst 2, 1) := by decide +kernel
theorem d_law_1133 : decode m_law.2.2.1 1133 = .ok (.iadd, 1) := by decide +kernel
theorem d_law_1134 : decode m_law.2.2.1 1134 = .ok (.iaload, 1) := by decide +kernel
theorem d_law_1135 : decode m_law.2.2.1 1135 = .ok (.aload_n 0, 1) := by decide +kernel
theorem d_law_1136 : decode m_law.2.2.1 1136 = .ok (.iload_n 3, 1) := by decide +kernel
theorem d_law_1137 : decode m_law.2.2.1 1137 = .ok (.iconst 3, 1) := by decide +kernel
theorem d_law_1138 : decode m_law.2.2.1 1138 = .ok (.iadd, 1) := by decide +kernel
theorem d_law_1139 : decode m_law.2.2.1 1139 = .ok (.iaload, 1) := by decide +kernel
theorem d_law_1140 : decode m_law.2.2.1 1140 = .ok (.invokevirtual 150, 3) := by decide +kernel
theorem d_law_1143 : decode m_law.2.2.1 1143 = .ok (.aload_n 2, 1) := by decide +kernel
theorem d_law_1144 : decode m_law.2.2.1 1144 = .ok (.aload_n 0, 1) := by decide +kernel
theorem d_law_1145 : decode m_law.2.2.1 1145 = .ok (.iload_n 3, 1) := by decide +kernel
theorem d_law_1146 : decode m_law.2.2.1 1146 = .ok (.iconst 1, 1) := by decide +kernel
theorem d_law_1147 : decode m_law.2.2.1 1147 = .ok (.iadd, 1) := by decide +kernel
theorem d_law_1148 : decode m_law.2.2.1 1148 = .ok (.iaload, 1) := by decide +kernel
theorem d_law_1149 : decode m_law.2.2.1 1149 = .ok (.aload_n 0, 1) := by decide +kernel
theorem d_law_1150 : decode m_law.2.2.1 1150 = .ok (.iload_n 3, 1) := by decide +kernel
theorem d_law_1151 : decode m_law.2.2.1 1151 = .ok (.iconst 2, 1) := by decide +kernel
theorem d_law_1152 : decode m_law.2.2.1 1152 = .ok (.iadd, 1) := by decide +kernel
theorem d_law_1153 : decode m_law.2.2.1 1153 = .ok (.iaload, 1) := by decide +kernel
theorem d_law_1154 : decode m_law.2.2.1 1154 = .ok (.aload_n 0, 1) := by decide +kernel
theorem d_law_1155 : decode m_law.2.2.1 1155 = .ok (.iload_n 3, 1) := by decide +kernel
theorem d_law_1156 : decode m_law.2.2.1 1156 = .ok (.iconst 3, 1) := by decide +kernel
theorem d_law_1157 : decode m_law.2.2.1 1157 = .ok (.iadd, 1) := by decide +kernel
theorem d_law_1158 : decode m_law.2.2.1 1158 = .ok (.iaload, 1) := by decide +kernel
theorem d_law_1159 : decode m_law.2.2.1 1159 = .ok (.invokevirtual 153, 3) := by decide +kernel
theorem d_law_1162 : decode m_law.2.2.1 1162 = .ok (.if_icmp .eq 140, 3) := by decide +kernel
theorem d_law_1165 : decode m_law.2.2.1 1165 = .ok (.iconst 0, 1) := by decide +kernel
theorem d_law_1166 : decode m_law.2.2.1 1166 = .ok (.ireturn, 1) := by decide +kernel
theorem d_law_1167 : decode m_law.2.2.1 1167 = .ok (.aload_n 1, 1) := by decide +kernel
theorem d_law_1168 : decode m_law.2.2.1 1168 = .ok (.aload_n 0, 1) := by decide +kernel
theorem d_law_1169 : decode m_law.2.2.1 1169 = .ok (.iload_n 3, 1) := by decide +kernel
theorem d_law_1170 : decode m_law.2.2.1 1170 = .ok (.iconst 1, 1) := by decide +kernel
theorem d_law_1171 : decode m_law.2.2.1 1171 = .ok (.iadd, 1) := by decide +kernel
theorem d_law_1172 : decode m_law.2.2.1 1172 = .ok (.iaload, 1) := by decide +kernel
theorem d_law_1173 : decode m_law.2.2.1 1173 = .ok (.aload_n 0, 1) := by decide +kernel
theorem d_law_1174 : decode m_law.2.2.1 1174 = .ok (.iload_n 3, 1) := by decide +kernel
theorem d_law_1175 : decode m_law.2.2.1 1175 = .ok (.iconst 2, 1) := by decide +kernel
theorem d_law_1176 : decode m_law.2.2.1 1176 = .ok (.iadd, 1) := by decide +kernel
theorem d_law_1177 : decode m_law.2.2.1 1177 = .ok (.iaload, 1) := by decide +kernel
theorem d_law_1178 : decode m_law.2.2.1 1178 = .ok (.aload_n 0, 1) := by decide +kernel
theorem d_law_1179 : decode m_law.2.2.1 1179 = .ok (.iload_n 3, 1) := by decide +kernel
theorem d_law_1180 : decode m_law.2.2.1 1180 = .ok (.iconst 3, 1) := by decide +kernel
theorem d_law_1181 : decode m_law.2.2.1 1181 = .ok (.iadd, 1) := by decide +kernel
theorem d_law_1182 : decode m_law.2.2.1 1182 = .ok (.iaload, 1) := by decide +kernel
theorem d_law_1183 : decode m_law.2.2.1 1183 = .ok (.invokevirtual 154, 3) := by decide +kernel
theorem d_law_1186 : decode m_law.2.2.1 1186 = .ok (.aload_n 2, 1) := by decide +kernel
theorem d_law_1187 : decode m_law.2.2.1 1187 = .ok (.aload_n 0, 1) := by decide +kernel
theorem d_law_1188 : decode m_law.2.2.1 1188 = .ok (.iload_n 3, 1) := by decide +kernel
theorem d_law_1189 : decode m_law.2.2.1 1189 = .ok (.iconst 1, 1) := by decide +kernel
theorem d_law_1190 : decode m_law.2.2.1 1190 = .ok (.iadd, 1) := by decide +kernel
theorem d_law_1191 : decode m_law.2.2.1 1191 = .ok (.iaload, 1) := by decide +kernel
theorem d_law_1192 : decode m_law.2.2.1 1192 = .ok (.aload_n 0, 1) := by decide +kernel
theorem d_law_1193 : decode m_law.2.2.1 1193 = .ok (.iload_n 3, 1) := by decide +kernel
theorem d_law_1194 : decode m_law.2.2.1 1194 = .ok (.iconst 2, 1) := by decide +kernel
theorem d_law_1195 : decode m_law.2.2.1 1195 = .ok (.iadd, 1) := by decide +kernel
theorem d_law_1196 : decode m_law.2.2.1 1196 = .ok (.iaload, 1) := by decide +kernel
theorem d_law_1197 : decode m_law.2.2.1 1197 = .ok (.aload_n 0, 1) := by decide +kernel
theorem d_law_1198 : decode m_law.2.2.1 1198 = .ok (.iload_n 3, 1) := by decide +kernel
theorem d_law_1199 : decode m_law.2.2.1 1199 = .ok (.iconst 3, 1) := by decide +kernel
theorem d_law_1200 : decode m_law.2.2.1 1200 = .ok (.iadd, 1) := by decide +kernel
theorem d_law_1201 : decode m_law.2.2.1 1201 = .ok (.iaload, 1) := by decide +kernel
theorem d_law_1202 : decode m_law.2.2.1 1202 = .ok (.invokevirtual 157, 3) := by decide +kernel
theorem d_law_1205 : decode m_law.2.2.1 1205 = .ok (.if_icmp .eq 97, 3) := by decide +kernel
theorem d_law_1208 : decode m_law.2.2.1 1208 = .ok (.iconst 0, 1) := by decide +kernel
theorem d_law_1209 : decode m_law.2.2.1 1209 = .ok (.ireturn, 1) := by decide +kernel
theorem d_law_1210 : decode m_law.2.2.1 1210 = .ok (.aload_n 1, 1) := by decide +kernel
theorem d_law_1211 : decode m_law.2.2.1 1211 = .ok (.aload_n 0, 1) := by decide +kernel
theorem d_law_1212 : decode m_law.2.2.1 1212 = .ok (.iload_n 3, 1) := by decide +kernel
theorem d_law_1213 : decode m_law.2.2.1 1213 = .ok (.iconst 1, 1) := by decide +kernel
theorem d_law_1214 : decode m_law.2.2.1 1214 = .ok (.iadd, 1) := by decide +kernel
theorem d_law_1215 : decode m_law.2.2.1 1215 = .ok (.iaload, 1) := by decide +kernel
theorem d_law_1216 : decode m_law.2.2.1 1216 = .ok (.aload_n 0, 1) := by decide +kernel
theorem d_law_1217 : decode m_law.2.2.1 1217 = .ok (.iload_n 3, 1) := by decide +kernel
theorem d_law_1218 : decode m_law.2.2.1 1218 = .ok (.iconst 2, 1) := by decide +kernel
theorem d_law_1219 : decode m_law.2.2.1 1219 = .ok (.iadd, 1) := by decide +kernel
theorem d_law_1220 : decode m_law.2.2.1 1220 = .ok (.iaload, 1) := by decide +kernel
theorem d_law_1221 : decode m_law.2.2.1 1221 = .ok (.invokevirtual 158, 3) := by decide +kernel
theorem d_law_1224 : decode m_law.2.2.1 1224 = .ok (.aload_n 2, 1) := by decide +kernel
theorem d_law_1225 : decode m_law.2.2.1 1225 = .ok (.aload_n 0, 1) := by decide +kernel
theorem d_law_1226 : decode m_law.2.2.1 1226 = .ok (.iload_n 3, 1) := by decide +kernel
theorem d_law_1227 : decode m_law.2.2.1 1227 = .ok (.iconst 1, 1) := by decide +kernel
theorem d_law_1228 : decode m_law.2.2.1 1228 = .ok (.iadd, 1) := by decide +kernel
theorem d_law_1229 : decode m_law.2.2.1 1229 = .ok (.iaload, 1) := by decide +kernel
theorem d_law_1230 : decode m_law.2.2.1 1230 = .ok (.aload_n 0, 1) := by decide +kernel
theorem d_law_1231 : decode m_law.2.2.1 1231 = .ok (.iload_n 3, 1) := by decide +kernel
theorem d_law_1232 : decode m_law.2.2.1 1232 = .ok (.iconst 2, 1) := by decide +kernel
theorem d_law_1233 : decode m_law.2.2.1 1233 = .ok (.iadd, 1) := by decide +kernel
theorem d_law_1234 : decode m_law.2.2.1 1234 = .ok (.iaload, 1) := by decide +kernel
theorem d_law_1235 : decode m_law.2.2.1 1235 = .ok (.invokevirtual 161, 3) := by decide +kernel
theorem d_law_1238 : decode m_law.2.2.1 1238 = .ok (.if_icmp .eq 64, 3) := by decide +kernel
theorem d_law_1241 : decode m_law.2.2.1 1241 = .ok (.iconst 0, 1) := by decide +kernel
theorem d_law_1242 : decode m_law.2.2.1 1242 = .ok (.ireturn, 1) := by decide +kernel
theorem d_law_1243 : decode m_law.2.2.1 1243 = .ok (.aload_n 1, 1) := by decide +kernel
theorem d_law_1244 : decode m_law.2.2.1 1244 = .ok (.aload_n 0, 1) := by decide +kernel
theorem d_law_1245 : decode m_law.2.2.1 1245 = .ok (.iload_n 3, 1) := by decide +kernel
theorem d_law_1246 : decode m_law.2.2.1 1246 = .ok (.iconst 1, 1) := by decide +kernel
theorem d_law_1247 : decode m_law.2.2.1 1247 = .ok (.iadd, 1) := by decide +kernel
theorem d_law_1248 : decode m_law.2.2.1 1248 = .ok (.iaload, 1) := by decide +kernel
theorem d_law_1249 : decode m_law.2.2.1 1249 = .ok (.aload_n 0, 1) := by decide +kernel
theorem d_law_1250 : decode m_law.2.2.1 1250 = .ok (.iload_n 3, 1) := by decide +kernel
theorem d_law_1251 : decode m_law.2.2.1 1251 = .ok (.iconst 2, 1) := by decide +kernel
theorem d_law_1252 : decode m_law.2.2.1 1252 = .ok (.iadd, 1) := by decide +kernel
theorem d_law_1253 : decode m_law.2.2.1 1253 = .ok (.iaload, 1) := by decide +kernel
theorem d_law_1254 : decode m_law.2.2.1 1254 = .ok (.invokevirtual 162, 3) := by decide +kernel
theorem d_law_1257 : decode m_law.2.2.1 1257 = .ok (.aload_n 2, 1) := by decide +kernel
theorem d_law_1258 : decode m_law.2.2.1 1258 = .ok (.aload_n 0, 1) := by decide +kernel
theorem d_law_1259 : decode m_law.2.2.1 1259 = .ok (.iload_n 3, 1) := by decide +kernel
theorem d_law_1260 : decode m_law.2.2.1 1260 = .ok (.iconst 1, 1) := by decide +kernel
theorem d_law_1261 : decode m_law.2.2.1 1261 = .ok (.iadd, 1) := by decide +kernel
theorem d_law_1262 : decode m_law.2.2.1 1262 = .ok (.iaload, 1) := by decide +kernel
theorem d_law_1263 : decode m_law.2.2.1 1263 = .ok (.aload_n 0, 1) := by decide +kernel
theorem d_law_1264 : decode m_law.2.2.1 1264 = .ok (.iload_n 3, 1) := by decide +kernel
theorem d_law_1265 : decode m_law.2.2.1 1265 = .ok (.iconst 2, 1) := by decide +kernel
theorem d_law_1266 : decode m_law.2.2.1 1266 = .ok (.iadd, 1) := by decide +kernel
theorem d_law_1267 : decode m_law.2.2.1 1267 = .ok (.iaload, 1) := by decide +kernel
theorem d_law_1268 : decode m_law.2.2.1 1268 = .ok (.invokevirtual 165, 3) := by decide +kernel
theorem d_law_1271 : decode m_law.2.2.1 1271 = .ok (.if_icmp .eq 31, 3) := by decide +kernel
theorem d_law_1274 : decode m_law.2.2.1 1274 = .ok (.iconst 0, 1) := by decide +kernel
theorem d_law_1275 : decode m_law.2.2.1 1275 = .ok (.ireturn, 1) := by decide +kernel
theorem d_law_1276 : decode m_law.2.2.1 1276 = .ok (.aload_n 1, 1) := by decide +kernel
theorem d_law_1277 : decode m_law.2.2.1 1277 = .ok (.invokevirtual 166, 3) := by decide +kernel
theorem d_law_1280 : decode m_law.2.2.1 1280 = .ok (.aload_n 2, 1) := by decide +kernel
theorem d_law_1281 : decode m_law.2.2.1 1281 = .ok (.invokevirtual 169, 3) := by decide +kernel
theorem d_law_1284 : decode m_law.2.2.1 1284 = .ok (.if_icmp .eq 18, 3) := by decide +kernel
theorem d_law_1287 : decode m_law.2.2.1 1287 = .ok (.iconst 0, 1) := by decide +kernel
theorem d_law_1288 : decode m_law.2.2.1 1288 = .ok (.ireturn, 1) := by decide +kernel
theorem d_law_1289 : decode m_law.2.2.1 1289 = .ok (.aload_n 1, 1) := by decide +kernel
theorem d_law_1290 : decode m_law.2.2.1 1290 = .ok (.invokevirtual 170, 3) := by decide +kernel
theorem d_law_1293 : decode m_law.2.2.1 1293 = .ok (.aload_n 2, 1) := by decide +kernel
theorem d_law_1294 : decode m_law.2.2.1 1294 = .ok (.invokevirtual 173, 3) := by decide +kernel
theorem d_law_1297 : decode m_law.2.2.1 1297 = .ok (.if_icmp .eq 5, 3) := by decide +kernel
theorem d_law_1300 : decode m_law.2.2.1 1300 = .ok (.iconst 0, 1) := by decide +kernel
theorem d_law_1301 : decode m_law.2.2.1 1301 = .ok (.ireturn, 1) := by decide +kernel
theorem d_law_1302 : decode m_law.2.2.1 1302 = .ok (.iinc 3 4, 3) := by decide +kernel
theorem d_law_1305 : decode m_law.2.2.1 1305 = .ok (.goto (-1287), 3) := by decide +kernel
theorem d_law_1308 : decode m_law.2.2.1 1308 = .ok (.iconst 1, 1) := by decide +kernel
theorem d_law_1309 : decode m_law.2.2.1 1309 = .ok (.ireturn, 1) := by decide +kernel
theorem d_jd_doubleToLongBits_0 : decode m_jd_doubleToLongBits.2.2.1 0 = .ok (.dload_n 0, 1) := by decide +kernel
theorem d_jd_doubleToLongBits_1 : decode m_jd_doubleToLongBits.2.2.1 1 = .ok (.invokestatic 122, 3) := by decide +kernel
theorem d_jd_doubleToLongBits_4 : decode m_jd_doubleToLongBits.2.2.1 4 = .ok (.ifCond .ne 8, 3) := by decide +kernel
theorem d_jd_doubleToLongBits_7 : decode m_jd_doubleToLongBits.2.2.1 7 = .ok (.dload_n 0, 1) := by decide +kernel
theorem d_jd_doubleToLongBits_8 : decode m_jd_doubleToLongBits.2.2.1 8 = .ok (.invokestatic 134, 3) := by decide +kernel
theorem d_jd_doubleToLongBits_11 : decode m_jd_doubleToLongBits.2.2.1 11 = .ok (.lreturn, 1) := by decide +kernel
theorem d_jd_doubleToLongBits_12 : decode m_jd_doubleToLongBits.2.2.1 12 = .ok (.ldc2_w 137, 3) := by decide +kernel
theorem d_jd_doubleToLongBits_15 : decode m_jd_doubleToLongBits.2.2.1 15 = .ok (.lreturn, 1) := by decide +kernel
theorem d_jd_isNaN_0 : decode m_jd_isNaN.2.2.1 0 = .ok (.dload_n 0, 1) := by decide +kernel
theorem d_jd_isNaN_1 : decode m_jd_isNaN.2.2.1 1 = .ok (.dload_n 0, 1) := by decide +kernel
theorem d_jd_isNaN_2 : decode m_jd_isNaN.2.2.1 2 = .ok (.dcmp .l, 1) := by decide +kernel
theorem d_jd_isNaN_3 : decode m_jd_isNaN.2.2.1 3 = .ok (.ifCond .eq 7, 3) := by decide +kernel
theorem d_jd_isNaN_6 : decode m_jd_isNaN.2.2.1 6 = .ok (.iconst 1, 1) := by decide +kernel
theorem d_jd_isNaN_7 : decode m_jd_isNaN.2.2.1 7 = .ok (.goto 4, 3) := by decide +kernel
theorem d_jd_isNaN_10 : decode m_jd_isNaN.2.2.1 10 = .ok (.iconst 0, 1) := by decide +kernel
theorem d_jd_isNaN_11 : decode m_jd_isNaN.2.2.1 11 = .ok (.ireturn, 1) := by decide +kernel
theorem d_jf_floatToIntBits_0 : decode m_jf_floatToIntBits.2.2.1 0 = .ok (.fload_n 0, 1) := by decide +kernel
theorem d_jf_floatToIntBits_1 : decode m_jf_floatToIntBits.2.2.1 1 = .ok (.invokestatic 59, 3) := by decide +kernel
theorem d_jf_floatToIntBits_4 : decode m_jf_floatToIntBits.2.2.1 4 = .ok (.ifCond .ne 8, 3) := by decide +kernel
theorem d_jf_floatToIntBits_7 : decode m_jf_floatToIntBits.2.2.1 7 = .ok (.fload_n 0, 1) := by decide +kernel
theorem d_jf_floatToIntBits_8 : decode m_jf_floatToIntBits.2.2.1 8 = .ok (.invokestatic 74, 3) := by decide +kernel
theorem d_jf_floatToIntBits_11 : decode m_jf_floatToIntBits.2.2.1 11 = .ok (.ireturn, 1) := by decide +kernel
theorem d_jf_floatToIntBits_12 : decode m_jf_floatToIntBits.2.2.1 12 = .ok (.ldc 77, 2) := by decide +kernel
theorem d_jf_floatToIntBits_14 : decode m_jf_floatToIntBits.2.2.1 14 = .ok (.ireturn, 1) := by decide +kernel
theorem d_jf_isNaN_0 : decode m_jf_isNaN.2.2.1 0 = .ok (.fload_n 0, 1) := by decide +kernel
theorem d_jf_isNaN_1 : decode m_jf_isNaN.2.2.1 1 = .ok (.fload_n 0, 1) := by decide +kernel
theorem d_jf_isNaN_2 : decode m_jf_isNaN.2.2.1 2 = .ok (.fcmp .l, 1) := by decide +kernel
theorem d_jf_isNaN_3 : decode m_jf_isNaN.2.2.1 3 = .ok (.ifCond .eq 7, 3) := by decide +kernel
theorem d_jf_isNaN_6 : decode m_jf_isNaN.2.2.1 6 = .ok (.iconst 1, 1) := by decide +kernel
theorem d_jf_isNaN_7 : decode m_jf_isNaN.2.2.1 7 = .ok (.goto 4, 3) := by decide +kernel
theorem d_jf_isNaN_10 : decode m_jf_isNaN.2.2.1 10 = .ok (.iconst 0, 1) := by decide +kernel
theorem d_jf_isNaN_11 : decode m_jf_isNaN.2.2.1 11 = .ok (.ireturn, 1) := by decide +kernel
theorem d_js_charAt_0 : decode m_js_charAt.2.2.1 0 = .ok (.aload_n 0, 1) := by decide +kernel
theorem d_js_charAt_1 : decode m_js_charAt.2.2.1 1 = .ok (.invokevirtual 492, 3) := by decide +kernel
theorem d_js_charAt_4 : decode m_js_charAt.2.2.1 4 = .ok (.ifCond .eq 12, 3) := by decide +kernel
theorem d_js_charAt_7 : decode m_js_charAt.2.2.1 7 = .ok (.aload_n 0, 1) := by decide +kernel
theorem d_js_charAt_8 : decode m_js_charAt.2.2.1 8 = .ok (.getfield 9, 3) := by decide +kernel
theorem d_js_charAt_11 : decode m_js_charAt.2.2.1 11 = .ok (.iload_n 1, 1) := by decide +kernel
theorem d_js_charAt_12 : decode m_js_charAt.2.2.1 12 = .ok (.invokestatic 495, 3) := by decide +kernel
theorem d_js_charAt_15 : decode m_js_charAt.2.2.1 15 = .ok (.ireturn, 1) := by decide +kernel
theorem d_js_charAt_16 : decode m_js_charAt.2.2.1 16 = .ok (.aload_n 0, 1) := by decide +kernel
theorem d_js_charAt_17 : decode m_js_charAt.2.2.1 17 = .ok (.getfield 9, 3) := by decide +kernel
theorem d_js_charAt_20 : decode m_js_charAt.2.2.1 20 = .ok (.iload_n 1, 1) := by decide +kernel
theorem d_js_charAt_21 : decode m_js_charAt.2.2.1 21 = .ok (.invokestatic 498, 3) := by decide +kernel
theorem d_js_charAt_24 : decode m_js_charAt.2.2.1 24 = .ok (.ireturn, 1) := by decide +kernel
theorem d_js_checkIndex_0 : decode m_js_checkIndex.2.2.1 0 = .ok (.iload_n 0, 1) := by decide +kernel
theorem d_js_checkIndex_1 : decode m_js_checkIndex.2.2.1 1 = .ok (.iload_n 1, 1) := by decide +kernel
theorem d_js_checkIndex_2 : decode m_js_checkIndex.2.2.1 2 = .ok (.getstatic 1053, 3) := by decide +kernel
theorem d_js_checkIndex_5 : decode m_js_checkIndex.2.2.1 5 = .ok (.invokestatic 1059, 3) := by decide +kernel
theorem d_js_checkIndex_8 : decode m_js_checkIndex.2.2.1 8 = .ok (.pop, 1) := by decide +kernel
theorem d_js_checkIndex_9 : decode m_js_checkIndex.2.2.1 9 = .ok (.return_, 1) := by decide +kernel
theorem d_js_coder_0 : decode m_js_coder.2.2.1 0 = .ok (.getstatic 38, 3) := by decide +kernel
theorem d_js_coder_3 : decode m_js_coder.2.2.1 3 = .ok (.ifCond .eq 10, 3) := by decide +kernel
theorem d_js_coder_6 : decode m_js_coder.2.2.1 6 = .ok (.aload_n 0, 1) := by decide +kernel
theorem d_js_coder_7 : decode m_js_coder.2.2.1 7 = .ok (.getfield 15, 3) := by decide +kernel
theorem d_js_coder_10 : decode m_js_coder.2.2.1 10 = .ok (.goto 4, 3) := by decide +kernel
theorem d_js_coder_13 : decode m_js_coder.2.2.1 13 = .ok (.iconst 1, 1) := by decide +kernel
theorem d_js_coder_14 : decode m_js_coder.2.2.1 14 = .ok (.ireturn, 1) := by decide +kernel
theorem d_js_isLatin1_0 : decode m_js_isLatin1.2.2.1 0 = .ok (.getstatic 38, 3) := by decide +kernel
theorem d_js_isLatin1_3 : decode m_js_isLatin1.2.2.1 3 = .ok (.ifCond .eq 14, 3) := by decide +kernel
theorem d_js_isLatin1_6 : decode m_js_isLatin1.2.2.1 6 = .ok (.aload_n 0, 1) := by decide +kernel
theorem d_js_isLatin1_7 : decode m_js_isLatin1.2.2.1 7 = .ok (.getfield 15, 3) := by decide +kernel
theorem d_js_isLatin1_10 : decode m_js_isLatin1.2.2.1 10 = .ok (.ifCond .ne 7, 3) := by decide +kernel
theorem d_js_isLatin1_13 : decode m_js_isLatin1.2.2.1 13 = .ok (.iconst 1, 1) := by decide +kernel
theorem d_js_isLatin1_14 : decode m_js_isLatin1.2.2.1 14 = .ok (.goto 4, 3) := by decide +kernel
theorem d_js_isLatin1_17 : decode m_js_isLatin1.2.2.1 17 = .ok (.iconst 0, 1) := by decide +kernel
theorem d_js_isLatin1_18 : decode m_js_isLatin1.2.2.1 18 = .ok (.ireturn, 1) := by decide +kernel
theorem d_js_length_0 : decode m_js_length.2.2.1 0 = .ok (.aload_n 0, 1) := by decide +kernel
theorem d_js_length_1 : decode m_js_length.2.2.1 1 = .ok (.getfield 9, 3) := by decide +kernel
theorem d_js_length_4 : decode m_js_length.2.2.1 4 = .ok (.arraylength, 1) := by decide +kernel
theorem d_js_length_5 : decode m_js_length.2.2.1 5 = .ok (.aload_n 0, 1) := by decide +kernel
theorem d_js_length_6 : decode m_js_length.2.2.1 6 = .ok (.invokevirtual 335, 3) := by decide +kernel
theorem d_js_length_9 : decode m_js_length.2.2.1 9 = .ok (.ishr, 1) := by decide +kernel
theorem d_js_length_10 : decode m_js_length.2.2.1 10 = .ok (.ireturn, 1) := by decide +kernel
theorem d_jl_charAt_0 : decode m_jl_charAt.2.2.1 0 = .ok (.iload_n 1, 1) := by decide +kernel
theorem d_jl_charAt_1 : decode m_jl_charAt.2.2.1 1 = .ok (.aload_n 0, 1) := by decide +kernel
theorem d_jl_charAt_2 : decode m_jl_charAt.2.2.1 2 = .ok (.arraylength, 1) := by decide +kernel
theorem d_jl_charAt_3 : decode m_jl_charAt.2.2.1 3 = .ok (.invokestatic 9, 3) := by decide +kernel
theorem d_jl_charAt_6 : decode m_jl_charAt.2.2.1 6 = .ok (.aload_n 0, 1) := by decide +kernel
theorem d_jl_charAt_7 : decode m_jl_charAt.2.2.1 7 = .ok (.iload_n 1, 1) := by decide +kernel
theorem d_jl_charAt_8 : decode m_jl_charAt.2.2.1 8 = .ok (.baload, 1) := by decide +kernel
theorem d_jl_charAt_9 : decode m_jl_charAt.2.2.1 9 = .ok (.sipush 255, 3) := by decide +kernel
theorem d_jl_charAt_12 : decode m_jl_charAt.2.2.1 12 = .ok (.iand, 1) := by decide +kernel
theorem d_jl_charAt_13 : decode m_jl_charAt.2.2.1 13 = .ok (.i2c, 1) := by decide +kernel
theorem d_jl_charAt_14 : decode m_jl_charAt.2.2.1 14 = .ok (.ireturn, 1) := by decide +kernel
theorem d_jp_checkIndex_0 : decode m_jp_checkIndex.2.2.1 0 = .ok (.iload_n 0, 1) := by decide +kernel
theorem d_jp_checkIndex_1 : decode m_jp_checkIndex.2.2.1 1 = .ok (.ifCond .lt 8, 3) := by decide +kernel
theorem d_jp_checkIndex_4 : decode m_jp_checkIndex.2.2.1 4 = .ok (.iload_n 0, 1) := by decide +kernel
theorem d_jp_checkIndex_5 : decode m_jp_checkIndex.2.2.1 5 = .ok (.iload_n 1, 1) := by decide +kernel
theorem d_jp_checkIndex_6 : decode m_jp_checkIndex.2.2.1 6 = .ok (.if_icmp .lt 10, 3) := by decide +kernel
theorem d_jp_checkIndex_9 : decode m_jp_checkIndex.2.2.1 9 = .ok (.aload_n 2, 1) := by decide +kernel
theorem d_jp_checkIndex_10 : decode m_jp_checkIndex.2.2.1 10 = .ok (.iload_n 0, 1) := by decide +kernel
theorem d_jp_checkIndex_11 : decode m_jp_checkIndex.2.2.1 11 = .ok (.iload_n 1, 1) := by decide +kernel
theorem d_jp_checkIndex_12 : decode m_jp_checkIndex.2.2.1 12 = .ok (.invokestatic 95, 3) := by decide +kernel
theorem d_jp_checkIndex_15 : decode m_jp_checkIndex.2.2.1 15 = .ok (.athrow, 1) := by decide +kernel
theorem d_jp_checkIndex_16 : decode m_jp_checkIndex.2.2.1 16 = .ok (.iload_n 0, 1) := by decide +kernel
theorem d_jp_checkIndex_17 : decode m_jp_checkIndex.2.2.1 17 = .ok (.ireturn, 1) := by decide +kernel
