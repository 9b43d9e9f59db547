/-! ===== what stands at each place: the law, 0 ===== -/
theorem dL_law__0 : decode cL_law_ 0 = .ok (.new 8, 3) := by decide +kernel
theorem dL_law__3 : decode cL_law_ 3 = .ok (.dup, 1) := by decide +kernel
theorem dL_law__4 : decode cL_law_ 4 = .ok (.invokespecial 137, 3) := by decide +kernel
theorem dL_law__7 : decode cL_law_ 7 = .ok (.astore_n 1, 1) := by decide +kernel
theorem dL_law__8 : decode cL_law_ 8 = .ok (.new 138, 3) := by decide +kernel
theorem dL_law__11 : decode cL_law_ 11 = .ok (.dup, 1) := by decide +kernel
theorem dL_law__12 : decode cL_law_ 12 = .ok (.invokespecial 140, 3) := by decide +kernel
theorem dL_law__15 : decode cL_law_ 15 = .ok (.astore_n 2, 1) := by decide +kernel
theorem dL_law__16 : decode cL_law_ 16 = .ok (.iconst 1, 1) := by decide +kernel
theorem dL_law__17 : decode cL_law_ 17 = .ok (.newarray .long, 2) := by decide +kernel
theorem dL_law__19 : decode cL_law_ 19 = .ok (.astore_n 3, 1) := by decide +kernel
theorem dL_law__20 : decode cL_law_ 20 = .ok (.iconst 0, 1) := by decide +kernel
theorem dL_law__21 : decode cL_law_ 21 = .ok (.istore 4, 2) := by decide +kernel
theorem dL_law__23 : decode cL_law_ 23 = .ok (.iload 4, 2) := by decide +kernel
theorem dL_law__25 : decode cL_law_ 25 = .ok (.aload_n 0, 1) := by decide +kernel
theorem dL_law__26 : decode cL_law_ 26 = .ok (.arraylength, 1) := by decide +kernel
theorem dL_law__27 : decode cL_law_ 27 = .ok (.bipush 6, 2) := by decide +kernel
theorem dL_law__29 : decode cL_law_ 29 = .ok (.isub, 1) := by decide +kernel
theorem dL_law__30 : decode cL_law_ 30 = .ok (.if_icmp .gt 2926, 3) := by decide +kernel
theorem dL_law__33 : decode cL_law_ 33 = .ok (.aload_n 0, 1) := by decide +kernel
theorem dL_law__34 : decode cL_law_ 34 = .ok (.iload 4, 2) := by decide +kernel
theorem dL_law__36 : decode cL_law_ 36 = .ok (.iaload, 1) := by decide +kernel
theorem dL_law__37 : decode cL_law_ 37 = .ok (.bipush 63, 2) := by decide +kernel
theorem dL_law__39 : decode cL_law_ 39 = .ok (.iand, 1) := by decide +kernel
theorem dL_law__40 : decode cL_law_ 40 = .ok (.tableswitch 2910 0 46 #[204, 277, 333, 389, 457, 513, 526, 582, 650, 718, 731, 811, 824, 880, 948, 1016, 1108, 1188, 1256, 1324, 1392, 1460, 1551, 1607, 1663, 1738, 1806, 1874, 1917, 1973, 2017, 2097, 2153, 2221, 2289, 2357, 2413, 2469, 2525, 2593, 2673, 2753, 2821, 2834, 2847, 2860, 2885], 204) := by decide +kernel
theorem dL_law__244 : decode cL_law_ 244 = .ok (.aload_n 1, 1) := by decide +kernel
theorem dL_law__245 : decode cL_law_ 245 = .ok (.aload_n 0, 1) := by decide +kernel
theorem dL_law__246 : decode cL_law_ 246 = .ok (.iload 4, 2) := by decide +kernel
theorem dL_law__248 : decode cL_law_ 248 = .ok (.iconst 1, 1) := by decide +kernel
theorem dL_law__249 : decode cL_law_ 249 = .ok (.iadd, 1) := by decide +kernel
theorem dL_law__250 : decode cL_law_ 250 = .ok (.iaload, 1) := by decide +kernel
theorem dL_law__251 : decode cL_law_ 251 = .ok (.aload_n 0, 1) := by decide +kernel
theorem dL_law__252 : decode cL_law_ 252 = .ok (.iload 4, 2) := by decide +kernel
theorem dL_law__254 : decode cL_law_ 254 = .ok (.iconst 2, 1) := by decide +kernel
theorem dL_law__255 : decode cL_law_ 255 = .ok (.iadd, 1) := by decide +kernel
theorem dL_law__256 : decode cL_law_ 256 = .ok (.iaload, 1) := by decide +kernel
theorem dL_law__257 : decode cL_law_ 257 = .ok (.aload_n 0, 1) := by decide +kernel
theorem dL_law__258 : decode cL_law_ 258 = .ok (.iload 4, 2) := by decide +kernel
theorem dL_law__260 : decode cL_law_ 260 = .ok (.iconst 3, 1) := by decide +kernel
theorem dL_law__261 : decode cL_law_ 261 = .ok (.iadd, 1) := by decide +kernel
theorem dL_law__262 : decode cL_law_ 262 = .ok (.iaload, 1) := by decide +kernel
theorem dL_law__263 : decode cL_law_ 263 = .ok (.aload_n 0, 1) := by decide +kernel
theorem dL_law__264 : decode cL_law_ 264 = .ok (.iload 4, 2) := by decide +kernel
theorem dL_law__266 : decode cL_law_ 266 = .ok (.iconst 4, 1) := by decide +kernel
theorem dL_law__267 : decode cL_law_ 267 = .ok (.iadd, 1) := by decide +kernel
theorem dL_law__268 : decode cL_law_ 268 = .ok (.iaload, 1) := by decide +kernel
theorem dL_law__269 : decode cL_law_ 269 = .ok (.aload_n 0, 1) := by decide +kernel
theorem dL_law__270 : decode cL_law_ 270 = .ok (.iload 4, 2) := by decide +kernel
theorem dL_law__272 : decode cL_law_ 272 = .ok (.iconst 5, 1) := by decide +kernel
theorem dL_law__273 : decode cL_law_ 273 = .ok (.iadd, 1) := by decide +kernel
theorem dL_law__274 : decode cL_law_ 274 = .ok (.iaload, 1) := by decide +kernel
theorem dL_law__275 : decode cL_law_ 275 = .ok (.invokevirtual 141, 3) := by decide +kernel
theorem dL_law__278 : decode cL_law_ 278 = .ok (.aload_n 2, 1) := by decide +kernel
theorem dL_law__279 : decode cL_law_ 279 = .ok (.aload_n 0, 1) := by decide +kernel
theorem dL_law__280 : decode cL_law_ 280 = .ok (.iload 4, 2) := by decide +kernel
theorem dL_law__282 : decode cL_law_ 282 = .ok (.iconst 1, 1) := by decide +kernel
theorem dL_law__283 : decode cL_law_ 283 = .ok (.iadd, 1) := by decide +kernel
theorem dL_law__284 : decode cL_law_ 284 = .ok (.iaload, 1) := by decide +kernel
theorem dL_law__285 : decode cL_law_ 285 = .ok (.aload_n 0, 1) := by decide +kernel
theorem dL_law__286 : decode cL_law_ 286 = .ok (.iload 4, 2) := by decide +kernel
theorem dL_law__288 : decode cL_law_ 288 = .ok (.iconst 2, 1) := by decide +kernel
theorem dL_law__289 : decode cL_law_ 289 = .ok (.iadd, 1) := by decide +kernel
theorem dL_law__290 : decode cL_law_ 290 = .ok (.iaload, 1) := by decide +kernel
theorem dL_law__291 : decode cL_law_ 291 = .ok (.aload_n 0, 1) := by decide +kernel
theorem dL_law__292 : decode cL_law_ 292 = .ok (.iload 4, 2) := by decide +kernel
theorem dL_law__294 : decode cL_law_ 294 = .ok (.iconst 3, 1) := by decide +kernel
theorem dL_law__295 : decode cL_law_ 295 = .ok (.iadd, 1) := by decide +kernel
theorem dL_law__296 : decode cL_law_ 296 = .ok (.iaload, 1) := by decide +kernel
theorem dL_law__297 : decode cL_law_ 297 = .ok (.aload_n 0, 1) := by decide +kernel
theorem dL_law__298 : decode cL_law_ 298 = .ok (.iload 4, 2) := by decide +kernel
theorem dL_law__300 : decode cL_law_ 300 = .ok (.iconst 4, 1) := by decide +kernel
theorem dL_law__301 : decode cL_law_ 301 = .ok (.iadd, 1) := by decide +kernel
theorem dL_law__302 : decode cL_law_ 302 = .ok (.iaload, 1) := by decide +kernel
theorem dL_law__303 : decode cL_law_ 303 = .ok (.aload_n 0, 1) := by decide +kernel
theorem dL_law__304 : decode cL_law_ 304 = .ok (.iload 4, 2) := by decide +kernel
theorem dL_law__306 : decode cL_law_ 306 = .ok (.iconst 5, 1) := by decide +kernel
theorem dL_law__307 : decode cL_law_ 307 = .ok (.iadd, 1) := by decide +kernel
theorem dL_law__308 : decode cL_law_ 308 = .ok (.iaload, 1) := by decide +kernel
theorem dL_law__309 : decode cL_law_ 309 = .ok (.invokevirtual 145, 3) := by decide +kernel
theorem dL_law__312 : decode cL_law_ 312 = .ok (.if_icmp .eq 2638, 3) := by decide +kernel
theorem dL_law__315 : decode cL_law_ 315 = .ok (.iconst 0, 1) := by decide +kernel
theorem dL_law__316 : decode cL_law_ 316 = .ok (.ireturn, 1) := by decide +kernel
theorem dL_law__317 : decode cL_law_ 317 = .ok (.aload_n 1, 1) := by decide +kernel
theorem dL_law__318 : decode cL_law_ 318 = .ok (.aload_n 0, 1) := by decide +kernel
theorem dL_law__319 : decode cL_law_ 319 = .ok (.iload 4, 2) := by decide +kernel
theorem dL_law__321 : decode cL_law_ 321 = .ok (.iconst 1, 1) := by decide +kernel
theorem dL_law__322 : decode cL_law_ 322 = .ok (.iadd, 1) := by decide +kernel
theorem dL_law__323 : decode cL_law_ 323 = .ok (.iaload, 1) := by decide +kernel
theorem dL_law__324 : decode cL_law_ 324 = .ok (.aload_n 3, 1) := by decide +kernel
theorem dL_law__325 : decode cL_law_ 325 = .ok (.invokestatic 146, 3) := by decide +kernel
theorem dL_law__328 : decode cL_law_ 328 = .ok (.istore 5, 2) := by decide +kernel
theorem dL_law__330 : decode cL_law_ 330 = .ok (.aload_n 2, 1) := by decide +kernel
theorem dL_law__331 : decode cL_law_ 331 = .ok (.aload_n 0, 1) := by decide +kernel
theorem dL_law__332 : decode cL_law_ 332 = .ok (.iload 4, 2) := by decide +kernel
theorem dL_law__334 : decode cL_law_ 334 = .ok (.iconst 1, 1) := by decide +kernel
theorem dL_law__335 : decode cL_law_ 335 = .ok (.iadd, 1) := by decide +kernel
theorem dL_law__336 : decode cL_law_ 336 = .ok (.iaload, 1) := by decide +kernel
theorem dL_law__337 : decode cL_law_ 337 = .ok (.invokevirtual 151, 3) := by decide +kernel
theorem dL_law__340 : decode cL_law_ 340 = .ok (.istore 6, 2) := by decide +kernel
theorem dL_law__342 : decode cL_law_ 342 = .ok (.aload_n 2, 1) := by decide +kernel
theorem dL_law__343 : decode cL_law_ 343 = .ok (.invokevirtual 152, 3) := by decide +kernel
theorem dL_law__346 : decode cL_law_ 346 = .ok (.iload 5, 2) := by decide +kernel
theorem dL_law__348 : decode cL_law_ 348 = .ok (.if_icmp .eq 5, 3) := by decide +kernel
theorem dL_law__351 : decode cL_law_ 351 = .ok (.iconst 0, 1) := by decide +kernel
theorem dL_law__352 : decode cL_law_ 352 = .ok (.ireturn, 1) := by decide +kernel
theorem dL_law__353 : decode cL_law_ 353 = .ok (.iload 5, 2) := by decide +kernel
theorem dL_law__355 : decode cL_law_ 355 = .ok (.ifCond .ne 15, 3) := by decide +kernel
theorem dL_law__358 : decode cL_law_ 358 = .ok (.aload_n 3, 1) := by decide +kernel
theorem dL_law__359 : decode cL_law_ 359 = .ok (.iconst 0, 1) := by decide +kernel
theorem dL_law__360 : decode cL_law_ 360 = .ok (.laload, 1) := by decide +kernel
theorem dL_law__361 : decode cL_law_ 361 = .ok (.iload 6, 2) := by decide +kernel
theorem dL_law__363 : decode cL_law_ 363 = .ok (.i2l, 1) := by decide +kernel
theorem dL_law__364 : decode cL_law_ 364 = .ok (.lcmp, 1) := by decide +kernel
theorem dL_law__365 : decode cL_law_ 365 = .ok (.ifCond .eq 5, 3) := by decide +kernel
theorem dL_law__368 : decode cL_law_ 368 = .ok (.iconst 0, 1) := by decide +kernel
theorem dL_law__369 : decode cL_law_ 369 = .ok (.ireturn, 1) := by decide +kernel
theorem dL_law__370 : decode cL_law_ 370 = .ok (.goto 2580, 3) := by decide +kernel
theorem dL_law__373 : decode cL_law_ 373 = .ok (.aload_n 1, 1) := by decide +kernel
theorem dL_law__374 : decode cL_law_ 374 = .ok (.aload_n 0, 1) := by decide +kernel
theorem dL_law__375 : decode cL_law_ 375 = .ok (.iload 4, 2) := by decide +kernel
theorem dL_law__377 : decode cL_law_ 377 = .ok (.iconst 1, 1) := by decide +kernel
theorem dL_law__378 : decode cL_law_ 378 = .ok (.iadd, 1) := by decide +kernel
theorem dL_law__379 : decode cL_law_ 379 = .ok (.iaload, 1) := by decide +kernel
theorem dL_law__380 : decode cL_law_ 380 = .ok (.aload_n 3, 1) := by decide +kernel
theorem dL_law__381 : decode cL_law_ 381 = .ok (.invokestatic 155, 3) := by decide +kernel
theorem dL_law__384 : decode cL_law_ 384 = .ok (.istore 5, 2) := by decide +kernel
theorem dL_law__386 : decode cL_law_ 386 = .ok (.aload_n 2, 1) := by decide +kernel
theorem dL_law__387 : decode cL_law_ 387 = .ok (.aload_n 0, 1) := by decide +kernel
theorem dL_law__388 : decode cL_law_ 388 = .ok (.iload 4, 2) := by decide +kernel
theorem dL_law__390 : decode cL_law_ 390 = .ok (.iconst 1, 1) := by decide +kernel
theorem dL_law__391 : decode cL_law_ 391 = .ok (.iadd, 1) := by decide +kernel
theorem dL_law__392 : decode cL_law_ 392 = .ok (.iaload, 1) := by decide +kernel
theorem dL_law__393 : decode cL_law_ 393 = .ok (.invokevirtual 157, 3) := by decide +kernel
theorem dL_law__396 : decode cL_law_ 396 = .ok (.istore 6, 2) := by decide +kernel
theorem dL_law__398 : decode cL_law_ 398 = .ok (.aload_n 2, 1) := by decide +kernel
theorem dL_law__399 : decode cL_law_ 399 = .ok (.invokevirtual 152, 3) := by decide +kernel
theorem dL_law__402 : decode cL_law_ 402 = .ok (.iload 5, 2) := by decide +kernel
theorem dL_law__404 : decode cL_law_ 404 = .ok (.if_icmp .eq 5, 3) := by decide +kernel
theorem dL_law__407 : decode cL_law_ 407 = .ok (.iconst 0, 1) := by decide +kernel
theorem dL_law__408 : decode cL_law_ 408 = .ok (.ireturn, 1) := by decide +kernel
theorem dL_law__409 : decode cL_law_ 409 = .ok (.iload 5, 2) := by decide +kernel
theorem dL_law__411 : decode cL_law_ 411 = .ok (.ifCond .ne 15, 3) := by decide +kernel
theorem dL_law__414 : decode cL_law_ 414 = .ok (.aload_n 3, 1) := by decide +kernel
theorem dL_law__415 : decode cL_law_ 415 = .ok (.iconst 0, 1) := by decide +kernel
theorem dL_law__416 : decode cL_law_ 416 = .ok (.laload, 1) := by decide +kernel
theorem dL_law__417 : decode cL_law_ 417 = .ok (.iload 6, 2) := by decide +kernel
theorem dL_law__419 : decode cL_law_ 419 = .ok (.i2l, 1) := by decide +kernel
theorem dL_law__420 : decode cL_law_ 420 = .ok (.lcmp, 1) := by decide +kernel
theorem dL_law__421 : decode cL_law_ 421 = .ok (.ifCond .eq 5, 3) := by decide +kernel
theorem dL_law__424 : decode cL_law_ 424 = .ok (.iconst 0, 1) := by decide +kernel
theorem dL_law__425 : decode cL_law_ 425 = .ok (.ireturn, 1) := by decide +kernel
theorem dL_law__426 : decode cL_law_ 426 = .ok (.goto 2524, 3) := by decide +kernel
theorem dL_law__429 : decode cL_law_ 429 = .ok (.aload_n 1, 1) := by decide +kernel
theorem dL_law__430 : decode cL_law_ 430 = .ok (.aload_n 0, 1) := by decide +kernel
theorem dL_law__431 : decode cL_law_ 431 = .ok (.iload 4, 2) := by decide +kernel
theorem dL_law__433 : decode cL_law_ 433 = .ok (.iconst 1, 1) := by decide +kernel
theorem dL_law__434 : decode cL_law_ 434 = .ok (.iadd, 1) := by decide +kernel
theorem dL_law__435 : decode cL_law_ 435 = .ok (.iaload, 1) := by decide +kernel
theorem dL_law__436 : decode cL_law_ 436 = .ok (.aload_n 0, 1) := by decide +kernel
theorem dL_law__437 : decode cL_law_ 437 = .ok (.iload 4, 2) := by decide +kernel
theorem dL_law__439 : decode cL_law_ 439 = .ok (.iconst 2, 1) := by decide +kernel
theorem dL_law__440 : decode cL_law_ 440 = .ok (.iadd, 1) := by decide +kernel
theorem dL_law__441 : decode cL_law_ 441 = .ok (.iaload, 1) := by decide +kernel
theorem dL_law__442 : decode cL_law_ 442 = .ok (.aload_n 3, 1) := by decide +kernel
theorem dL_law__443 : decode cL_law_ 443 = .ok (.invokestatic 158, 3) := by decide +kernel
theorem dL_law__446 : decode cL_law_ 446 = .ok (.istore 5, 2) := by decide +kernel
theorem dL_law__448 : decode cL_law_ 448 = .ok (.aload_n 2, 1) := by decide +kernel
theorem dL_law__449 : decode cL_law_ 449 = .ok (.aload_n 0, 1) := by decide +kernel
theorem dL_law__450 : decode cL_law_ 450 = .ok (.iload 4, 2) := by decide +kernel
theorem dL_law__452 : decode cL_law_ 452 = .ok (.iconst 1, 1) := by decide +kernel
theorem dL_law__453 : decode cL_law_ 453 = .ok (.iadd, 1) := by decide +kernel
theorem dL_law__454 : decode cL_law_ 454 = .ok (.iaload, 1) := by decide +kernel
theorem dL_law__455 : decode cL_law_ 455 = .ok (.aload_n 0, 1) := by decide +kernel
theorem dL_law__456 : decode cL_law_ 456 = .ok (.iload 4, 2) := by decide +kernel
theorem dL_law__458 : decode cL_law_ 458 = .ok (.iconst 2, 1) := by decide +kernel
theorem dL_law__459 : decode cL_law_ 459 = .ok (.iadd, 1) := by decide +kernel
theorem dL_law__460 : decode cL_law_ 460 = .ok (.iaload, 1) := by decide +kernel
theorem dL_law__461 : decode cL_law_ 461 = .ok (.invokevirtual 161, 3) := by decide +kernel
theorem dL_law__464 : decode cL_law_ 464 = .ok (.istore 6, 2) := by decide +kernel
theorem dL_law__466 : decode cL_law_ 466 = .ok (.aload_n 2, 1) := by decide +kernel
theorem dL_law__467 : decode cL_law_ 467 = .ok (.invokevirtual 152, 3) := by decide +kernel
theorem dL_law__470 : decode cL_law_ 470 = .ok (.iload 5, 2) := by decide +kernel
theorem dL_law__472 : decode cL_law_ 472 = .ok (.if_icmp .eq 5, 3) := by decide +kernel
theorem dL_law__475 : decode cL_law_ 475 = .ok (.iconst 0, 1) := by decide +kernel
theorem dL_law__476 : decode cL_law_ 476 = .ok (.ireturn, 1) := by decide +kernel
theorem dL_law__477 : decode cL_law_ 477 = .ok (.iload 5, 2) := by decide +kernel
theorem dL_law__479 : decode cL_law_ 479 = .ok (.ifCond .ne 15, 3) := by decide +kernel
theorem dL_law__482 : decode cL_law_ 482 = .ok (.aload_n 3, 1) := by decide +kernel
theorem dL_law__483 : decode cL_law_ 483 = .ok (.iconst 0, 1) := by decide +kernel
theorem dL_law__484 : decode cL_law_ 484 = .ok (.laload, 1) := by decide +kernel
theorem dL_law__485 : decode cL_law_ 485 = .ok (.iload 6, 2) := by decide +kernel
theorem dL_law__487 : decode cL_law_ 487 = .ok (.i2l, 1) := by decide +kernel
theorem dL_law__488 : decode cL_law_ 488 = .ok (.lcmp, 1) := by decide +kernel
theorem dL_law__489 : decode cL_law_ 489 = .ok (.ifCond .eq 5, 3) := by decide +kernel
theorem dL_law__492 : decode cL_law_ 492 = .ok (.iconst 0, 1) := by decide +kernel
theorem dL_law__493 : decode cL_law_ 493 = .ok (.ireturn, 1) := by decide +kernel
theorem dL_law__494 : decode cL_law_ 494 = .ok (.goto 2456, 3) := by decide +kernel
theorem dL_law__497 : decode cL_law_ 497 = .ok (.aload_n 1, 1) := by decide +kernel
theorem dL_law__498 : decode cL_law_ 498 = .ok (.aload_n 0, 1) := by decide +kernel
theorem dL_law__499 : decode cL_law_ 499 = .ok (.iload 4, 2) := by decide +kernel
theorem dL_law__501 : decode cL_law_ 501 = .ok (.iconst 1, 1) := by decide +kernel
theorem dL_law__502 : decode cL_law_ 502 = .ok (.iadd, 1) := by decide +kernel
theorem dL_law__503 : decode cL_law_ 503 = .ok (.iaload, 1) := by decide +kernel
theorem dL_law__504 : decode cL_law_ 504 = .ok (.aload_n 3, 1) := by decide +kernel
theorem dL_law__505 : decode cL_law_ 505 = .ok (.invokestatic 162, 3) := by decide +kernel
theorem dL_law__508 : decode cL_law_ 508 = .ok (.istore 5, 2) := by decide +kernel
theorem dL_law__510 : decode cL_law_ 510 = .ok (.aload_n 2, 1) := by decide +kernel
theorem dL_law__511 : decode cL_law_ 511 = .ok (.aload_n 0, 1) := by decide +kernel
theorem dL_law__512 : decode cL_law_ 512 = .ok (.iload 4, 2) := by decide +kernel
theorem dL_law__514 : decode cL_law_ 514 = .ok (.iconst 1, 1) := by decide +kernel
theorem dL_law__515 : decode cL_law_ 515 = .ok (.iadd, 1) := by decide +kernel
theorem dL_law__516 : decode cL_law_ 516 = .ok (.iaload, 1) := by decide +kernel
theorem dL_law__517 : decode cL_law_ 517 = .ok (.invokevirtual 164, 3) := by decide +kernel
theorem dL_law__520 : decode cL_law_ 520 = .ok (.istore 6, 2) := by decide +kernel
theorem dL_law__522 : decode cL_law_ 522 = .ok (.aload_n 2, 1) := by decide +kernel
theorem dL_law__523 : decode cL_law_ 523 = .ok (.invokevirtual 152, 3) := by decide +kernel
theorem dL_law__526 : decode cL_law_ 526 = .ok (.iload 5, 2) := by decide +kernel
theorem dL_law__528 : decode cL_law_ 528 = .ok (.if_icmp .eq 5, 3) := by decide +kernel
theorem dL_law__531 : decode cL_law_ 531 = .ok (.iconst 0, 1) := by decide +kernel
theorem dL_law__532 : decode cL_law_ 532 = .ok (.ireturn, 1) := by decide +kernel

