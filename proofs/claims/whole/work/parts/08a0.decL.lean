theorem dL_law__0 : decode cL_law_ 0 = .ok (.new 8, 3) := by decide +kernel
theorem dL_law__3 : decode cL_law_ 3 = .ok (.dup, 1) := by decide +kernel
theorem dL_law__4 : decode cL_law_ 4 = .ok (.invokespecial 122, 3) := by decide +kernel
theorem dL_law__7 : decode cL_law_ 7 = .ok (.astore_n 1, 1) := by decide +kernel
theorem dL_law__8 : decode cL_law_ 8 = .ok (.new 123, 3) := by decide +kernel
theorem dL_law__11 : decode cL_law_ 11 = .ok (.dup, 1) := by decide +kernel
theorem dL_law__12 : decode cL_law_ 12 = .ok (.invokespecial 125, 3) := by decide +kernel
theorem dL_law__15 : decode cL_law_ 15 = .ok (.astore_n 2, 1) := by decide +kernel
theorem dL_law__16 : decode cL_law_ 16 = .ok (.iconst 1, 1) := by decide +kernel
theorem dL_law__17 : decode cL_law_ 17 = .ok (.newarray .long, 2) := by decide +kernel
theorem dL_law__19 : decode cL_law_ 19 = .ok (.astore_n 3, 1) := by decide +kernel
theorem dL_law__20 : decode cL_law_ 20 = .ok (.iconst 0, 1) := by decide +kernel
theorem dL_law__21 : decode cL_law_ 21 = .ok (.istore 4, 2) := by decide +kernel
theorem dL_law__23 : decode cL_law_ 23 = .ok (.iload 4, 2) := by decide +kernel
theorem dL_law__25 : decode cL_law_ 25 = .ok (.aload_n 0, 1) := by decide +kernel
theorem dL_law__26 : decode cL_law_ 26 = .ok (.arraylength, 1) := by decide +kernel
theorem dL_law__27 : decode cL_law_ 27 = .ok (.bipush 9, 2) := by decide +kernel
theorem dL_law__29 : decode cL_law_ 29 = .ok (.isub, 1) := by decide +kernel
theorem dL_law__30 : decode cL_law_ 30 = .ok (.if_icmp .gt 2783, 3) := by decide +kernel
theorem dL_law__33 : decode cL_law_ 33 = .ok (.aload_n 0, 1) := by decide +kernel
theorem dL_law__34 : decode cL_law_ 34 = .ok (.iload 4, 2) := by decide +kernel
theorem dL_law__36 : decode cL_law_ 36 = .ok (.iaload, 1) := by decide +kernel
theorem dL_law__37 : decode cL_law_ 37 = .ok (.bipush 63, 2) := by decide +kernel
theorem dL_law__39 : decode cL_law_ 39 = .ok (.iand, 1) := by decide +kernel
theorem dL_law__40 : decode cL_law_ 40 = .ok (.tableswitch 2767 0 42 #[188, 261, 317, 373, 429, 485, 498, 511, 567, 635, 703, 771, 917, 985, 1065, 1121, 1189, 1257, 1313, 1369, 1448, 1527, 1583, 1663, 1743, 1799, 1812, 1825, 1893, 1961, 2017, 2085, 2141, 2209, 2277, 2333, 2413, 2481, 2573, 2691, 2704, 2717, 2742], 188) := by decide +kernel
theorem dL_law__228 : decode cL_law_ 228 = .ok (.aload_n 1, 1) := by decide +kernel
theorem dL_law__229 : decode cL_law_ 229 = .ok (.aload_n 0, 1) := by decide +kernel
theorem dL_law__230 : decode cL_law_ 230 = .ok (.iload 4, 2) := by decide +kernel
theorem dL_law__232 : decode cL_law_ 232 = .ok (.iconst 1, 1) := by decide +kernel
theorem dL_law__233 : decode cL_law_ 233 = .ok (.iadd, 1) := by decide +kernel
theorem dL_law__234 : decode cL_law_ 234 = .ok (.iaload, 1) := by decide +kernel
theorem dL_law__235 : decode cL_law_ 235 = .ok (.aload_n 0, 1) := by decide +kernel
theorem dL_law__236 : decode cL_law_ 236 = .ok (.iload 4, 2) := by decide +kernel
theorem dL_law__238 : decode cL_law_ 238 = .ok (.iconst 2, 1) := by decide +kernel
theorem dL_law__239 : decode cL_law_ 239 = .ok (.iadd, 1) := by decide +kernel
theorem dL_law__240 : decode cL_law_ 240 = .ok (.iaload, 1) := by decide +kernel
theorem dL_law__241 : decode cL_law_ 241 = .ok (.aload_n 0, 1) := by decide +kernel
theorem dL_law__242 : decode cL_law_ 242 = .ok (.iload 4, 2) := by decide +kernel
theorem dL_law__244 : decode cL_law_ 244 = .ok (.iconst 3, 1) := by decide +kernel
theorem dL_law__245 : decode cL_law_ 245 = .ok (.iadd, 1) := by decide +kernel
theorem dL_law__246 : decode cL_law_ 246 = .ok (.iaload, 1) := by decide +kernel
theorem dL_law__247 : decode cL_law_ 247 = .ok (.aload_n 0, 1) := by decide +kernel
theorem dL_law__248 : decode cL_law_ 248 = .ok (.iload 4, 2) := by decide +kernel
theorem dL_law__250 : decode cL_law_ 250 = .ok (.iconst 4, 1) := by decide +kernel
theorem dL_law__251 : decode cL_law_ 251 = .ok (.iadd, 1) := by decide +kernel
theorem dL_law__252 : decode cL_law_ 252 = .ok (.iaload, 1) := by decide +kernel
theorem dL_law__253 : decode cL_law_ 253 = .ok (.aload_n 0, 1) := by decide +kernel
theorem dL_law__254 : decode cL_law_ 254 = .ok (.iload 4, 2) := by decide +kernel
theorem dL_law__256 : decode cL_law_ 256 = .ok (.iconst 5, 1) := by decide +kernel
theorem dL_law__257 : decode cL_law_ 257 = .ok (.iadd, 1) := by decide +kernel
theorem dL_law__258 : decode cL_law_ 258 = .ok (.iaload, 1) := by decide +kernel
theorem dL_law__259 : decode cL_law_ 259 = .ok (.invokevirtual 126, 3) := by decide +kernel
theorem dL_law__262 : decode cL_law_ 262 = .ok (.aload_n 2, 1) := by decide +kernel
theorem dL_law__263 : decode cL_law_ 263 = .ok (.aload_n 0, 1) := by decide +kernel
theorem dL_law__264 : decode cL_law_ 264 = .ok (.iload 4, 2) := by decide +kernel
theorem dL_law__266 : decode cL_law_ 266 = .ok (.iconst 1, 1) := by decide +kernel
theorem dL_law__267 : decode cL_law_ 267 = .ok (.iadd, 1) := by decide +kernel
theorem dL_law__268 : decode cL_law_ 268 = .ok (.iaload, 1) := by decide +kernel
theorem dL_law__269 : decode cL_law_ 269 = .ok (.aload_n 0, 1) := by decide +kernel
theorem dL_law__270 : decode cL_law_ 270 = .ok (.iload 4, 2) := by decide +kernel
theorem dL_law__272 : decode cL_law_ 272 = .ok (.iconst 2, 1) := by decide +kernel
theorem dL_law__273 : decode cL_law_ 273 = .ok (.iadd, 1) := by decide +kernel
theorem dL_law__274 : decode cL_law_ 274 = .ok (.iaload, 1) := by decide +kernel
theorem dL_law__275 : decode cL_law_ 275 = .ok (.aload_n 0, 1) := by decide +kernel
theorem dL_law__276 : decode cL_law_ 276 = .ok (.iload 4, 2) := by decide +kernel
theorem dL_law__278 : decode cL_law_ 278 = .ok (.iconst 3, 1) := by decide +kernel
theorem dL_law__279 : decode cL_law_ 279 = .ok (.iadd, 1) := by decide +kernel
theorem dL_law__280 : decode cL_law_ 280 = .ok (.iaload, 1) := by decide +kernel
theorem dL_law__281 : decode cL_law_ 281 = .ok (.aload_n 0, 1) := by decide +kernel
theorem dL_law__282 : decode cL_law_ 282 = .ok (.iload 4, 2) := by decide +kernel
theorem dL_law__284 : decode cL_law_ 284 = .ok (.iconst 4, 1) := by decide +kernel
theorem dL_law__285 : decode cL_law_ 285 = .ok (.iadd, 1) := by decide +kernel
theorem dL_law__286 : decode cL_law_ 286 = .ok (.iaload, 1) := by decide +kernel
theorem dL_law__287 : decode cL_law_ 287 = .ok (.aload_n 0, 1) := by decide +kernel
theorem dL_law__288 : decode cL_law_ 288 = .ok (.iload 4, 2) := by decide +kernel
theorem dL_law__290 : decode cL_law_ 290 = .ok (.iconst 5, 1) := by decide +kernel
theorem dL_law__291 : decode cL_law_ 291 = .ok (.iadd, 1) := by decide +kernel
theorem dL_law__292 : decode cL_law_ 292 = .ok (.iaload, 1) := by decide +kernel
theorem dL_law__293 : decode cL_law_ 293 = .ok (.invokevirtual 130, 3) := by decide +kernel
theorem dL_law__296 : decode cL_law_ 296 = .ok (.if_icmp .eq 2511, 3) := by decide +kernel
theorem dL_law__299 : decode cL_law_ 299 = .ok (.iconst 0, 1) := by decide +kernel
theorem dL_law__300 : decode cL_law_ 300 = .ok (.ireturn, 1) := by decide +kernel
theorem dL_law__301 : decode cL_law_ 301 = .ok (.aload_n 1, 1) := by decide +kernel
theorem dL_law__302 : decode cL_law_ 302 = .ok (.aload_n 0, 1) := by decide +kernel
theorem dL_law__303 : decode cL_law_ 303 = .ok (.iload 4, 2) := by decide +kernel
theorem dL_law__305 : decode cL_law_ 305 = .ok (.iconst 1, 1) := by decide +kernel
theorem dL_law__306 : decode cL_law_ 306 = .ok (.iadd, 1) := by decide +kernel
theorem dL_law__307 : decode cL_law_ 307 = .ok (.iaload, 1) := by decide +kernel
theorem dL_law__308 : decode cL_law_ 308 = .ok (.aload_n 3, 1) := by decide +kernel
theorem dL_law__309 : decode cL_law_ 309 = .ok (.invokestatic 131, 3) := by decide +kernel
theorem dL_law__312 : decode cL_law_ 312 = .ok (.istore 5, 2) := by decide +kernel
theorem dL_law__314 : decode cL_law_ 314 = .ok (.aload_n 2, 1) := by decide +kernel
theorem dL_law__315 : decode cL_law_ 315 = .ok (.aload_n 0, 1) := by decide +kernel
theorem dL_law__316 : decode cL_law_ 316 = .ok (.iload 4, 2) := by decide +kernel
theorem dL_law__318 : decode cL_law_ 318 = .ok (.iconst 1, 1) := by decide +kernel
theorem dL_law__319 : decode cL_law_ 319 = .ok (.iadd, 1) := by decide +kernel
theorem dL_law__320 : decode cL_law_ 320 = .ok (.iaload, 1) := by decide +kernel
theorem dL_law__321 : decode cL_law_ 321 = .ok (.invokevirtual 136, 3) := by decide +kernel
theorem dL_law__324 : decode cL_law_ 324 = .ok (.istore 6, 2) := by decide +kernel
theorem dL_law__326 : decode cL_law_ 326 = .ok (.aload_n 2, 1) := by decide +kernel
theorem dL_law__327 : decode cL_law_ 327 = .ok (.invokevirtual 137, 3) := by decide +kernel
theorem dL_law__330 : decode cL_law_ 330 = .ok (.iload 5, 2) := by decide +kernel
theorem dL_law__332 : decode cL_law_ 332 = .ok (.if_icmp .eq 5, 3) := by decide +kernel
theorem dL_law__335 : decode cL_law_ 335 = .ok (.iconst 0, 1) := by decide +kernel
theorem dL_law__336 : decode cL_law_ 336 = .ok (.ireturn, 1) := by decide +kernel
theorem dL_law__337 : decode cL_law_ 337 = .ok (.iload 5, 2) := by decide +kernel
theorem dL_law__339 : decode cL_law_ 339 = .ok (.ifCond .ne 15, 3) := by decide +kernel
theorem dL_law__342 : decode cL_law_ 342 = .ok (.aload_n 3, 1) := by decide +kernel
theorem dL_law__343 : decode cL_law_ 343 = .ok (.iconst 0, 1) := by decide +kernel
theorem dL_law__344 : decode cL_law_ 344 = .ok (.laload, 1) := by decide +kernel
theorem dL_law__345 : decode cL_law_ 345 = .ok (.iload 6, 2) := by decide +kernel
theorem dL_law__347 : decode cL_law_ 347 = .ok (.i2l, 1) := by decide +kernel
theorem dL_law__348 : decode cL_law_ 348 = .ok (.lcmp, 1) := by decide +kernel
theorem dL_law__349 : decode cL_law_ 349 = .ok (.ifCond .eq 5, 3) := by decide +kernel
theorem dL_law__352 : decode cL_law_ 352 = .ok (.iconst 0, 1) := by decide +kernel
theorem dL_law__353 : decode cL_law_ 353 = .ok (.ireturn, 1) := by decide +kernel
theorem dL_law__354 : decode cL_law_ 354 = .ok (.goto 2453, 3) := by decide +kernel
theorem dL_law__357 : decode cL_law_ 357 = .ok (.aload_n 1, 1) := by decide +kernel
theorem dL_law__358 : decode cL_law_ 358 = .ok (.aload_n 0, 1) := by decide +kernel
theorem dL_law__359 : decode cL_law_ 359 = .ok (.iload 4, 2) := by decide +kernel
theorem dL_law__361 : decode cL_law_ 361 = .ok (.iconst 1, 1) := by decide +kernel
theorem dL_law__362 : decode cL_law_ 362 = .ok (.iadd, 1) := by decide +kernel
theorem dL_law__363 : decode cL_law_ 363 = .ok (.iaload, 1) := by decide +kernel
theorem dL_law__364 : decode cL_law_ 364 = .ok (.aload_n 3, 1) := by decide +kernel
theorem dL_law__365 : decode cL_law_ 365 = .ok (.invokestatic 141, 3) := by decide +kernel
theorem dL_law__368 : decode cL_law_ 368 = .ok (.istore 5, 2) := by decide +kernel
theorem dL_law__370 : decode cL_law_ 370 = .ok (.aload_n 2, 1) := by decide +kernel
theorem dL_law__371 : decode cL_law_ 371 = .ok (.aload_n 0, 1) := by decide +kernel
theorem dL_law__372 : decode cL_law_ 372 = .ok (.iload 4, 2) := by decide +kernel
theorem dL_law__374 : decode cL_law_ 374 = .ok (.iconst 1, 1) := by decide +kernel
theorem dL_law__375 : decode cL_law_ 375 = .ok (.iadd, 1) := by decide +kernel
theorem dL_law__376 : decode cL_law_ 376 = .ok (.iaload, 1) := by decide +kernel
theorem dL_law__377 : decode cL_law_ 377 = .ok (.invokevirtual 143, 3) := by decide +kernel
theorem dL_law__380 : decode cL_law_ 380 = .ok (.istore 6, 2) := by decide +kernel
theorem dL_law__382 : decode cL_law_ 382 = .ok (.aload_n 2, 1) := by decide +kernel
theorem dL_law__383 : decode cL_law_ 383 = .ok (.invokevirtual 137, 3) := by decide +kernel
theorem dL_law__386 : decode cL_law_ 386 = .ok (.iload 5, 2) := by decide +kernel
theorem dL_law__388 : decode cL_law_ 388 = .ok (.if_icmp .eq 5, 3) := by decide +kernel
theorem dL_law__391 : decode cL_law_ 391 = .ok (.iconst 0, 1) := by decide +kernel
theorem dL_law__392 : decode cL_law_ 392 = .ok (.ireturn, 1) := by decide +kernel
theorem dL_law__393 : decode cL_law_ 393 = .ok (.iload 5, 2) := by decide +kernel
theorem dL_law__395 : decode cL_law_ 395 = .ok (.ifCond .ne 15, 3) := by decide +kernel
theorem dL_law__398 : decode cL_law_ 398 = .ok (.aload_n 3, 1) := by decide +kernel
theorem dL_law__399 : decode cL_law_ 399 = .ok (.iconst 0, 1) := by decide +kernel
theorem dL_law__400 : decode cL_law_ 400 = .ok (.laload, 1) := by decide +kernel
theorem dL_law__401 : decode cL_law_ 401 = .ok (.iload 6, 2) := by decide +kernel
theorem dL_law__403 : decode cL_law_ 403 = .ok (.i2l, 1) := by decide +kernel
theorem dL_law__404 : decode cL_law_ 404 = .ok (.lcmp, 1) := by decide +kernel
theorem dL_law__405 : decode cL_law_ 405 = .ok (.ifCond .eq 5, 3) := by decide +kernel
theorem dL_law__408 : decode cL_law_ 408 = .ok (.iconst 0, 1) := by decide +kernel
theorem dL_law__409 : decode cL_law_ 409 = .ok (.ireturn, 1) := by decide +kernel
theorem dL_law__410 : decode cL_law_ 410 = .ok (.goto 2397, 3) := by decide +kernel
theorem dL_law__413 : decode cL_law_ 413 = .ok (.aload_n 1, 1) := by decide +kernel
theorem dL_law__414 : decode cL_law_ 414 = .ok (.aload_n 0, 1) := by decide +kernel
theorem dL_law__415 : decode cL_law_ 415 = .ok (.iload 4, 2) := by decide +kernel
theorem dL_law__417 : decode cL_law_ 417 = .ok (.iconst 1, 1) := by decide +kernel
theorem dL_law__418 : decode cL_law_ 418 = .ok (.iadd, 1) := by decide +kernel
theorem dL_law__419 : decode cL_law_ 419 = .ok (.iaload, 1) := by decide +kernel
theorem dL_law__420 : decode cL_law_ 420 = .ok (.aload_n 3, 1) := by decide +kernel
theorem dL_law__421 : decode cL_law_ 421 = .ok (.invokestatic 144, 3) := by decide +kernel
theorem dL_law__424 : decode cL_law_ 424 = .ok (.istore 5, 2) := by decide +kernel
theorem dL_law__426 : decode cL_law_ 426 = .ok (.aload_n 2, 1) := by decide +kernel
theorem dL_law__427 : decode cL_law_ 427 = .ok (.aload_n 0, 1) := by decide +kernel
theorem dL_law__428 : decode cL_law_ 428 = .ok (.iload 4, 2) := by decide +kernel
theorem dL_law__430 : decode cL_law_ 430 = .ok (.iconst 1, 1) := by decide +kernel
theorem dL_law__431 : decode cL_law_ 431 = .ok (.iadd, 1) := by decide +kernel
theorem dL_law__432 : decode cL_law_ 432 = .ok (.iaload, 1) := by decide +kernel
theorem dL_law__433 : decode cL_law_ 433 = .ok (.invokevirtual 146, 3) := by decide +kernel
theorem dL_law__436 : decode cL_law_ 436 = .ok (.istore 6, 2) := by decide +kernel
theorem dL_law__438 : decode cL_law_ 438 = .ok (.aload_n 2, 1) := by decide +kernel
theorem dL_law__439 : decode cL_law_ 439 = .ok (.invokevirtual 137, 3) := by decide +kernel
theorem dL_law__442 : decode cL_law_ 442 = .ok (.iload 5, 2) := by decide +kernel
theorem dL_law__444 : decode cL_law_ 444 = .ok (.if_icmp .eq 5, 3) := by decide +kernel
theorem dL_law__447 : decode cL_law_ 447 = .ok (.iconst 0, 1) := by decide +kernel
theorem dL_law__448 : decode cL_law_ 448 = .ok (.ireturn, 1) := by decide +kernel
theorem dL_law__449 : decode cL_law_ 449 = .ok (.iload 5, 2) := by decide +kernel
theorem dL_law__451 : decode cL_law_ 451 = .ok (.ifCond .ne 15, 3) := by decide +kernel
theorem dL_law__454 : decode cL_law_ 454 = .ok (.aload_n 3, 1) := by decide +kernel
theorem dL_law__455 : decode cL_law_ 455 = .ok (.iconst 0, 1) := by decide +kernel
theorem dL_law__456 : decode cL_law_ 456 = .ok (.laload, 1) := by decide +kernel
theorem dL_law__457 : decode cL_law_ 457 = .ok (.iload 6, 2) := by decide +kernel
theorem dL_law__459 : decode cL_law_ 459 = .ok (.i2l, 1) := by decide +kernel
theorem dL_law__460 : decode cL_law_ 460 = .ok (.lcmp, 1) := by decide +kernel
theorem dL_law__461 : decode cL_law_ 461 = .ok (.ifCond .eq 5, 3) := by decide +kernel
theorem dL_law__464 : decode cL_law_ 464 = .ok (.iconst 0, 1) := by decide +kernel
theorem dL_law__465 : decode cL_law_ 465 = .ok (.ireturn, 1) := by decide +kernel
theorem dL_law__466 : decode cL_law_ 466 = .ok (.goto 2341, 3) := by decide +kernel
theorem dL_law__469 : decode cL_law_ 469 = .ok (.aload_n 1, 1) := by decide +kernel
theorem dL_law__470 : decode cL_law_ 470 = .ok (.aload_n 0, 1) := by decide +kernel
theorem dL_law__471 : decode cL_law_ 471 = .ok (.iload 4, 2) := by decide +kernel
theorem dL_law__473 : decode cL_law_ 473 = .ok (.iconst 1, 1) := by decide +kernel
theorem dL_law__474 : decode cL_law_ 474 = .ok (.iadd, 1) := by decide +kernel
theorem dL_law__475 : decode cL_law_ 475 = .ok (.iaload, 1) := by decide +kernel
theorem dL_law__476 : decode cL_law_ 476 = .ok (.aload_n 3, 1) := by decide +kernel
theorem dL_law__477 : decode cL_law_ 477 = .ok (.invokestatic 147, 3) := by decide +kernel
theorem dL_law__480 : decode cL_law_ 480 = .ok (.istore 5, 2) := by decide +kernel
theorem dL_law__482 : decode cL_law_ 482 = .ok (.aload_n 2, 1) := by decide +kernel
theorem dL_law__483 : decode cL_law_ 483 = .ok (.aload_n 0, 1) := by decide +kernel
theorem dL_law__484 : decode cL_law_ 484 = .ok (.iload 4, 2) := by decide +kernel
theorem dL_law__486 : decode cL_law_ 486 = .ok (.iconst 1, 1) := by decide +kernel
theorem dL_law__487 : decode cL_law_ 487 = .ok (.iadd, 1) := by decide +kernel
theorem dL_law__488 : decode cL_law_ 488 = .ok (.iaload, 1) := by decide +kernel
theorem dL_law__489 : decode cL_law_ 489 = .ok (.invokevirtual 149, 3) := by decide +kernel
theorem dL_law__492 : decode cL_law_ 492 = .ok (.istore 6, 2) := by decide +kernel
theorem dL_law__494 : decode cL_law_ 494 = .ok (.aload_n 2, 1) := by decide +kernel
theorem dL_law__495 : decode cL_law_ 495 = .ok (.invokevirtual 137, 3) := by decide +kernel
theorem dL_law__498 : decode cL_law_ 498 = .ok (.iload 5, 2) := by decide +kernel
theorem dL_law__500 : decode cL_law_ 500 = .ok (.if_icmp .eq 5, 3) := by decide +kernel
theorem dL_law__503 : decode cL_law_ 503 = .ok (.iconst 0, 1) := by decide +kernel
theorem dL_law__504 : decode cL_law_ 504 = .ok (.ireturn, 1) := by decide +kernel
theorem dL_law__505 : decode cL_law_ 505 = .ok (.iload 5, 2) := by decide +kernel
theorem dL_law__507 : decode cL_law_ 507 = .ok (.ifCond .ne 15, 3) := by decide +kernel
theorem dL_law__510 : decode cL_law_ 510 = .ok (.aload_n 3, 1) := by decide +kernel
theorem dL_law__511 : decode cL_law_ 511 = .ok (.iconst 0, 1) := by decide +kernel
theorem dL_law__512 : decode cL_law_ 512 = .ok (.laload, 1) := by decide +kernel
theorem dL_law__513 : decode cL_law_ 513 = .ok (.iload 6, 2) := by decide +kernel
theorem dL_law__515 : decode cL_law_ 515 = .ok (.i2l, 1) := by decide +kernel
theorem dL_law__516 : decode cL_law_ 516 = .ok (.lcmp, 1) := by decide +kernel
theorem dL_law__517 : decode cL_law_ 517 = .ok (.ifCond .eq 5, 3) := by decide +kernel
theorem dL_law__520 : decode cL_law_ 520 = .ok (.iconst 0, 1) := by decide +kernel
theorem dL_law__521 : decode cL_law_ 521 = .ok (.ireturn, 1) := by decide +kernel
theorem dL_law__522 : decode cL_law_ 522 = .ok (.goto 2285, 3) := by decide +kernel
theorem dL_law__525 : decode cL_law_ 525 = .ok (.aload_n 1, 1) := by decide +kernel
theorem dL_law__526 : decode cL_law_ 526 = .ok (.invokevirtual 150, 3) := by decide +kernel
theorem dL_law__529 : decode cL_law_ 529 = .ok (.aload_n 2, 1) := by decide +kernel
theorem dL_law__530 : decode cL_law_ 530 = .ok (.invokevirtual 153, 3) := by decide +kernel
theorem dL_law__533 : decode cL_law_ 533 = .ok (.if_icmp .eq 2274, 3) := by decide +kernel
theorem dL_law__536 : decode cL_law_ 536 = .ok (.iconst 0, 1) := by decide +kernel
theorem dL_law__537 : decode cL_law_ 537 = .ok (.ireturn, 1) := by decide +kernel
theorem dL_law__538 : decode cL_law_ 538 = .ok (.aload_n 1, 1) := by decide +kernel
theorem dL_law__539 : decode cL_law_ 539 = .ok (.invokevirtual 154, 3) := by decide +kernel
theorem dL_law__542 : decode cL_law_ 542 = .ok (.aload_n 2, 1) := by decide +kernel
theorem dL_law__543 : decode cL_law_ 543 = .ok (.invokevirtual 157, 3) := by decide +kernel
theorem dL_law__546 : decode cL_law_ 546 = .ok (.if_icmp .eq 2261, 3) := by decide +kernel
theorem dL_law__549 : decode cL_law_ 549 = .ok (.iconst 0, 1) := by decide +kernel
theorem dL_law__550 : decode cL_law_ 550 = .ok (.ireturn, 1) := by decide +kernel
theorem dL_law__551 : decode cL_law_ 551 = .ok (.aload_n 1, 1) := by decide +kernel
theorem dL_law__552 : decode cL_law_ 552 = .ok (.aload_n 0, 1) := by decide +kernel
theorem dL_law__553 : decode cL_law_ 553 = .ok (.iload 4, 2) := by decide +kernel
theorem dL_law__555 : decode cL_law_ 555 = .ok (.iconst 1, 1) := by decide +kernel
theorem dL_law__556 : decode cL_law_ 556 = .ok (.iadd, 1) := by decide +kernel
theorem dL_law__557 : decode cL_law_ 557 = .ok (.iaload, 1) := by decide +kernel
theorem dL_law__558 : decode cL_law_ 558 = .ok (.aload_n 3, 1) := by decide +kernel
theorem dL_law__559 : decode cL_law_ 559 = .ok (.invokestatic 158, 3) := by decide +kernel
theorem dL_law__562 : decode cL_law_ 562 = .ok (.istore 5, 2) := by decide +kernel
theorem dL_law__564 : decode cL_law_ 564 = .ok (.aload_n 2, 1) := by decide +kernel
theorem dL_law__565 : decode cL_law_ 565 = .ok (.aload_n 0, 1) := by decide +kernel
theorem dL_law__566 : decode cL_law_ 566 = .ok (.iload 4, 2) := by decide +kernel
theorem dL_law__568 : decode cL_law_ 568 = .ok (.iconst 1, 1) := by decide +kernel
theorem dL_law__569 : decode cL_law_ 569 = .ok (.iadd, 1) := by decide +kernel
theorem dL_law__570 : decode cL_law_ 570 = .ok (.iaload, 1) := by decide +kernel
theorem dL_law__571 : decode cL_law_ 571 = .ok (.invokevirtual 160, 3) := by decide +kernel
theorem dL_law__574 : decode cL_law_ 574 = .ok (.istore 6, 2) := by decide +kernel
theorem dL_law__576 : decode cL_law_ 576 = .ok (.aload_n 2, 1) := by decide +kernel
theorem dL_law__577 : decode cL_law_ 577 = .ok (.invokevirtual 137, 3) := by decide +kernel
theorem dL_law__580 : decode cL_law_ 580 = .ok (.iload 5, 2) := by decide +kernel
theorem dL_law__582 : decode cL_law_ 582 = .ok (.if_icmp .eq 5, 3) := by decide +kernel
theorem dL_law__585 : decode cL_law_ 585 = .ok (.iconst 0, 1) := by decide +kernel
theorem dL_law__586 : decode cL_law_ 586 = .ok (.ireturn, 1) := by decide +kernel
theorem dL_law__587 : decode cL_law_ 587 = .ok (.iload 5, 2) := by decide +kernel
theorem dL_law__589 : decode cL_law_ 589 = .ok (.ifCond .ne 15, 3) := by decide +kernel
theorem dL_law__592 : decode cL_law_ 592 = .ok (.aload_n 3, 1) := by decide +kernel
theorem dL_law__593 : decode cL_law_ 593 = .ok (.iconst 0, 1) := by decide +kernel
theorem dL_law__594 : decode cL_law_ 594 = .ok (.laload, 1) := by decide +kernel
theorem dL_law__595 : decode cL_law_ 595 = .ok (.iload 6, 2) := by decide +kernel
theorem dL_law__597 : decode cL_law_ 597 = .ok (.i2l, 1) := by decide +kernel
theorem dL_law__598 : decode cL_law_ 598 = .ok (.lcmp, 1) := by decide +kernel
theorem dL_law__599 : decode cL_law_ 599 = .ok (.ifCond .eq 5, 3) := by decide +kernel
theorem dL_law__602 : decode cL_law_ 602 = .ok (.iconst 0, 1) := by decide +kernel
theorem dL_law__603 : decode cL_law_ 603 = .ok (.ireturn, 1) := by decide +kernel
theorem dL_law__604 : decode cL_law_ 604 = .ok (.goto 2203, 3) := by decide +kernel
theorem dL_law__607 : decode cL_law_ 607 = .ok (.aload_n 1, 1) := by decide +kernel
theorem dL_law__608 : decode cL_law_ 608 = .ok (.aload_n 0, 1) := by decide +kernel
theorem dL_law__609 : decode cL_law_ 609 = .ok (.iload 4, 2) := by decide +kernel
theorem dL_law__611 : decode cL_law_ 611 = .ok (.iconst 1, 1) := by decide +kernel
theorem dL_law__612 : decode cL_law_ 612 = .ok (.iadd, 1) := by decide +kernel
theorem dL_law__613 : decode cL_law_ 613 = .ok (.iaload, 1) := by decide +kernel
theorem dL_law__614 : decode cL_law_ 614 = .ok (.aload_n 0, 1) := by decide +kernel
theorem dL_law__615 : decode cL_law_ 615 = .ok (.iload 4, 2) := by decide +kernel
theorem dL_law__617 : decode cL_law_ 617 = .ok (.iconst 2, 1) := by decide +kernel
theorem dL_law__618 : decode cL_law_ 618 = .ok (.iadd, 1) := by decide +kernel
theorem dL_law__619 : decode cL_law_ 619 = .ok (.iaload, 1) := by decide +kernel
theorem dL_law__620 : decode cL_law_ 620 = .ok (.aload_n 3, 1) := by decide +kernel
theorem dL_law__621 : decode cL_law_ 621 = .ok (.invokestatic 161, 3) := by decide +kernel
theorem dL_law__624 : decode cL_law_ 624 = .ok (.istore 5, 2) := by decide +kernel
theorem dL_law__626 : decode cL_law_ 626 = .ok (.aload_n 2, 1) := by decide +kernel
theorem dL_law__627 : decode cL_law_ 627 = .ok (.aload_n 0, 1) := by decide +kernel
theorem dL_law__628 : decode cL_law_ 628 = .ok (.iload 4, 2) := by decide +kernel
theorem dL_law__630 : decode cL_law_ 630 = .ok (.iconst 1, 1) := by decide +kernel
theorem dL_law__631 : decode cL_law_ 631 = .ok (.iadd, 1) := by decide +kernel
theorem dL_law__632 : decode cL_law_ 632 = .ok (.iaload, 1) := by decide +kernel
theorem dL_law__633 : decode cL_law_ 633 = .ok (.aload_n 0, 1) := by decide +kernel
theorem dL_law__634 : decode cL_law_ 634 = .ok (.iload 4, 2) := by decide +kernel
theorem dL_law__636 : decode cL_law_ 636 = .ok (.iconst 2, 1) := by decide +kernel
theorem dL_law__637 : decode cL_law_ 637 = .ok (.iadd, 1) := by decide +kernel
theorem dL_law__638 : decode cL_law_ 638 = .ok (.iaload, 1) := by decide +kernel
theorem dL_law__639 : decode cL_law_ 639 = .ok (.invokevirtual 164, 3) := by decide +kernel
theorem dL_law__642 : decode cL_law_ 642 = .ok (.istore 6, 2) := by decide +kernel
theorem dL_law__644 : decode cL_law_ 644 = .ok (.aload_n 2, 1) := by decide +kernel
theorem dL_law__645 : decode cL_law_ 645 = .ok (.invokevirtual 137, 3) := by decide +kernel
