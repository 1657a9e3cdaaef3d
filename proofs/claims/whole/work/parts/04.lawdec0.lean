theorem dL_law__0 : decode cL_law_ 0 = .ok (.new 8, 3) := by decide +kernel
theorem dL_law__3 : decode cL_law_ 3 = .ok (.dup, 1) := by decide +kernel
theorem dL_law__4 : decode cL_law_ 4 = .ok (.invokespecial 117, 3) := by decide +kernel
theorem dL_law__7 : decode cL_law_ 7 = .ok (.astore_n 1, 1) := by decide +kernel
theorem dL_law__8 : decode cL_law_ 8 = .ok (.new 118, 3) := by decide +kernel
theorem dL_law__11 : decode cL_law_ 11 = .ok (.dup, 1) := by decide +kernel
theorem dL_law__12 : decode cL_law_ 12 = .ok (.invokespecial 120, 3) := by decide +kernel
theorem dL_law__15 : decode cL_law_ 15 = .ok (.astore_n 2, 1) := by decide +kernel
theorem dL_law__16 : decode cL_law_ 16 = .ok (.iconst 1, 1) := by decide +kernel
theorem dL_law__17 : decode cL_law_ 17 = .ok (.newarray .long, 2) := by decide +kernel
theorem dL_law__19 : decode cL_law_ 19 = .ok (.astore_n 3, 1) := by decide +kernel
theorem dL_law__20 : decode cL_law_ 20 = .ok (.iconst 0, 1) := by decide +kernel
theorem dL_law__21 : decode cL_law_ 21 = .ok (.istore 4, 2) := by decide +kernel
theorem dL_law__23 : decode cL_law_ 23 = .ok (.iload 4, 2) := by decide +kernel
theorem dL_law__25 : decode cL_law_ 25 = .ok (.aload_n 0, 1) := by decide +kernel
theorem dL_law__26 : decode cL_law_ 26 = .ok (.arraylength, 1) := by decide +kernel
theorem dL_law__27 : decode cL_law_ 27 = .ok (.bipush 9, 2) := by decide +kernel
theorem dL_law__29 : decode cL_law_ 29 = .ok (.isub, 1) := by decide +kernel
theorem dL_law__30 : decode cL_law_ 30 = .ok (.if_icmp .gt 2705, 3) := by decide +kernel
theorem dL_law__33 : decode cL_law_ 33 = .ok (.aload_n 0, 1) := by decide +kernel
theorem dL_law__34 : decode cL_law_ 34 = .ok (.iload 4, 2) := by decide +kernel
theorem dL_law__36 : decode cL_law_ 36 = .ok (.iaload, 1) := by decide +kernel
theorem dL_law__37 : decode cL_law_ 37 = .ok (.bipush 63, 2) := by decide +kernel
theorem dL_law__39 : decode cL_law_ 39 = .ok (.iand, 1) := by decide +kernel
theorem dL_law__40 : decode cL_law_ 40 = .ok (.tableswitch 2689 0 44 #[196, 269, 325, 381, 437, 493, 506, 519, 575, 643, 711, 779, 835, 981, 1044, 1112, 1125, 1181, 1194, 1250, 1330, 1410, 1490, 1569, 1649, 1729, 1785, 1853, 1866, 1879, 1892, 1948, 2016, 2072, 2128, 2141, 2209, 2265, 2321, 2377, 2481, 2613, 2626, 2639, 2664], 196) := by decide +kernel
theorem dL_law__236 : decode cL_law_ 236 = .ok (.aload_n 1, 1) := by decide +kernel
theorem dL_law__237 : decode cL_law_ 237 = .ok (.aload_n 0, 1) := by decide +kernel
theorem dL_law__238 : decode cL_law_ 238 = .ok (.iload 4, 2) := by decide +kernel
theorem dL_law__240 : decode cL_law_ 240 = .ok (.iconst 1, 1) := by decide +kernel
theorem dL_law__241 : decode cL_law_ 241 = .ok (.iadd, 1) := by decide +kernel
theorem dL_law__242 : decode cL_law_ 242 = .ok (.iaload, 1) := by decide +kernel
theorem dL_law__243 : decode cL_law_ 243 = .ok (.aload_n 0, 1) := by decide +kernel
theorem dL_law__244 : decode cL_law_ 244 = .ok (.iload 4, 2) := by decide +kernel
theorem dL_law__246 : decode cL_law_ 246 = .ok (.iconst 2, 1) := by decide +kernel
theorem dL_law__247 : decode cL_law_ 247 = .ok (.iadd, 1) := by decide +kernel
theorem dL_law__248 : decode cL_law_ 248 = .ok (.iaload, 1) := by decide +kernel
theorem dL_law__249 : decode cL_law_ 249 = .ok (.aload_n 0, 1) := by decide +kernel
theorem dL_law__250 : decode cL_law_ 250 = .ok (.iload 4, 2) := by decide +kernel
theorem dL_law__252 : decode cL_law_ 252 = .ok (.iconst 3, 1) := by decide +kernel
theorem dL_law__253 : decode cL_law_ 253 = .ok (.iadd, 1) := by decide +kernel
theorem dL_law__254 : decode cL_law_ 254 = .ok (.iaload, 1) := by decide +kernel
theorem dL_law__255 : decode cL_law_ 255 = .ok (.aload_n 0, 1) := by decide +kernel
theorem dL_law__256 : decode cL_law_ 256 = .ok (.iload 4, 2) := by decide +kernel
theorem dL_law__258 : decode cL_law_ 258 = .ok (.iconst 4, 1) := by decide +kernel
theorem dL_law__259 : decode cL_law_ 259 = .ok (.iadd, 1) := by decide +kernel
theorem dL_law__260 : decode cL_law_ 260 = .ok (.iaload, 1) := by decide +kernel
theorem dL_law__261 : decode cL_law_ 261 = .ok (.aload_n 0, 1) := by decide +kernel
theorem dL_law__262 : decode cL_law_ 262 = .ok (.iload 4, 2) := by decide +kernel
theorem dL_law__264 : decode cL_law_ 264 = .ok (.iconst 5, 1) := by decide +kernel
theorem dL_law__265 : decode cL_law_ 265 = .ok (.iadd, 1) := by decide +kernel
theorem dL_law__266 : decode cL_law_ 266 = .ok (.iaload, 1) := by decide +kernel
theorem dL_law__267 : decode cL_law_ 267 = .ok (.invokevirtual 121, 3) := by decide +kernel
theorem dL_law__270 : decode cL_law_ 270 = .ok (.aload_n 2, 1) := by decide +kernel
theorem dL_law__271 : decode cL_law_ 271 = .ok (.aload_n 0, 1) := by decide +kernel
theorem dL_law__272 : decode cL_law_ 272 = .ok (.iload 4, 2) := by decide +kernel
theorem dL_law__274 : decode cL_law_ 274 = .ok (.iconst 1, 1) := by decide +kernel
theorem dL_law__275 : decode cL_law_ 275 = .ok (.iadd, 1) := by decide +kernel
theorem dL_law__276 : decode cL_law_ 276 = .ok (.iaload, 1) := by decide +kernel
theorem dL_law__277 : decode cL_law_ 277 = .ok (.aload_n 0, 1) := by decide +kernel
theorem dL_law__278 : decode cL_law_ 278 = .ok (.iload 4, 2) := by decide +kernel
theorem dL_law__280 : decode cL_law_ 280 = .ok (.iconst 2, 1) := by decide +kernel
theorem dL_law__281 : decode cL_law_ 281 = .ok (.iadd, 1) := by decide +kernel
theorem dL_law__282 : decode cL_law_ 282 = .ok (.iaload, 1) := by decide +kernel
theorem dL_law__283 : decode cL_law_ 283 = .ok (.aload_n 0, 1) := by decide +kernel
theorem dL_law__284 : decode cL_law_ 284 = .ok (.iload 4, 2) := by decide +kernel
theorem dL_law__286 : decode cL_law_ 286 = .ok (.iconst 3, 1) := by decide +kernel
theorem dL_law__287 : decode cL_law_ 287 = .ok (.iadd, 1) := by decide +kernel
theorem dL_law__288 : decode cL_law_ 288 = .ok (.iaload, 1) := by decide +kernel
theorem dL_law__289 : decode cL_law_ 289 = .ok (.aload_n 0, 1) := by decide +kernel
theorem dL_law__290 : decode cL_law_ 290 = .ok (.iload 4, 2) := by decide +kernel
theorem dL_law__292 : decode cL_law_ 292 = .ok (.iconst 4, 1) := by decide +kernel
theorem dL_law__293 : decode cL_law_ 293 = .ok (.iadd, 1) := by decide +kernel
theorem dL_law__294 : decode cL_law_ 294 = .ok (.iaload, 1) := by decide +kernel
theorem dL_law__295 : decode cL_law_ 295 = .ok (.aload_n 0, 1) := by decide +kernel
theorem dL_law__296 : decode cL_law_ 296 = .ok (.iload 4, 2) := by decide +kernel
theorem dL_law__298 : decode cL_law_ 298 = .ok (.iconst 5, 1) := by decide +kernel
theorem dL_law__299 : decode cL_law_ 299 = .ok (.iadd, 1) := by decide +kernel
theorem dL_law__300 : decode cL_law_ 300 = .ok (.iaload, 1) := by decide +kernel
theorem dL_law__301 : decode cL_law_ 301 = .ok (.invokevirtual 124, 3) := by decide +kernel
theorem dL_law__304 : decode cL_law_ 304 = .ok (.if_icmp .eq 2425, 3) := by decide +kernel
theorem dL_law__307 : decode cL_law_ 307 = .ok (.iconst 0, 1) := by decide +kernel
theorem dL_law__308 : decode cL_law_ 308 = .ok (.ireturn, 1) := by decide +kernel
theorem dL_law__309 : decode cL_law_ 309 = .ok (.aload_n 1, 1) := by decide +kernel
theorem dL_law__310 : decode cL_law_ 310 = .ok (.aload_n 0, 1) := by decide +kernel
theorem dL_law__311 : decode cL_law_ 311 = .ok (.iload 4, 2) := by decide +kernel
theorem dL_law__313 : decode cL_law_ 313 = .ok (.iconst 1, 1) := by decide +kernel
theorem dL_law__314 : decode cL_law_ 314 = .ok (.iadd, 1) := by decide +kernel
theorem dL_law__315 : decode cL_law_ 315 = .ok (.iaload, 1) := by decide +kernel
theorem dL_law__316 : decode cL_law_ 316 = .ok (.aload_n 3, 1) := by decide +kernel
theorem dL_law__317 : decode cL_law_ 317 = .ok (.invokestatic 125, 3) := by decide +kernel
theorem dL_law__320 : decode cL_law_ 320 = .ok (.istore 5, 2) := by decide +kernel
theorem dL_law__322 : decode cL_law_ 322 = .ok (.aload_n 2, 1) := by decide +kernel
theorem dL_law__323 : decode cL_law_ 323 = .ok (.aload_n 0, 1) := by decide +kernel
theorem dL_law__324 : decode cL_law_ 324 = .ok (.iload 4, 2) := by decide +kernel
theorem dL_law__326 : decode cL_law_ 326 = .ok (.iconst 1, 1) := by decide +kernel
theorem dL_law__327 : decode cL_law_ 327 = .ok (.iadd, 1) := by decide +kernel
theorem dL_law__328 : decode cL_law_ 328 = .ok (.iaload, 1) := by decide +kernel
theorem dL_law__329 : decode cL_law_ 329 = .ok (.invokevirtual 130, 3) := by decide +kernel
theorem dL_law__332 : decode cL_law_ 332 = .ok (.istore 6, 2) := by decide +kernel
theorem dL_law__334 : decode cL_law_ 334 = .ok (.aload_n 2, 1) := by decide +kernel
theorem dL_law__335 : decode cL_law_ 335 = .ok (.invokevirtual 131, 3) := by decide +kernel
theorem dL_law__338 : decode cL_law_ 338 = .ok (.iload 5, 2) := by decide +kernel
theorem dL_law__340 : decode cL_law_ 340 = .ok (.if_icmp .eq 5, 3) := by decide +kernel
theorem dL_law__343 : decode cL_law_ 343 = .ok (.iconst 0, 1) := by decide +kernel
theorem dL_law__344 : decode cL_law_ 344 = .ok (.ireturn, 1) := by decide +kernel
theorem dL_law__345 : decode cL_law_ 345 = .ok (.iload 5, 2) := by decide +kernel
theorem dL_law__347 : decode cL_law_ 347 = .ok (.ifCond .ne 15, 3) := by decide +kernel
theorem dL_law__350 : decode cL_law_ 350 = .ok (.aload_n 3, 1) := by decide +kernel
theorem dL_law__351 : decode cL_law_ 351 = .ok (.iconst 0, 1) := by decide +kernel
theorem dL_law__352 : decode cL_law_ 352 = .ok (.laload, 1) := by decide +kernel
theorem dL_law__353 : decode cL_law_ 353 = .ok (.iload 6, 2) := by decide +kernel
theorem dL_law__355 : decode cL_law_ 355 = .ok (.i2l, 1) := by decide +kernel
theorem dL_law__356 : decode cL_law_ 356 = .ok (.lcmp, 1) := by decide +kernel
theorem dL_law__357 : decode cL_law_ 357 = .ok (.ifCond .eq 5, 3) := by decide +kernel
theorem dL_law__360 : decode cL_law_ 360 = .ok (.iconst 0, 1) := by decide +kernel
theorem dL_law__361 : decode cL_law_ 361 = .ok (.ireturn, 1) := by decide +kernel
theorem dL_law__362 : decode cL_law_ 362 = .ok (.goto 2367, 3) := by decide +kernel
theorem dL_law__365 : decode cL_law_ 365 = .ok (.aload_n 1, 1) := by decide +kernel
theorem dL_law__366 : decode cL_law_ 366 = .ok (.aload_n 0, 1) := by decide +kernel
theorem dL_law__367 : decode cL_law_ 367 = .ok (.iload 4, 2) := by decide +kernel
theorem dL_law__369 : decode cL_law_ 369 = .ok (.iconst 1, 1) := by decide +kernel
theorem dL_law__370 : decode cL_law_ 370 = .ok (.iadd, 1) := by decide +kernel
theorem dL_law__371 : decode cL_law_ 371 = .ok (.iaload, 1) := by decide +kernel
theorem dL_law__372 : decode cL_law_ 372 = .ok (.aload_n 3, 1) := by decide +kernel
theorem dL_law__373 : decode cL_law_ 373 = .ok (.invokestatic 135, 3) := by decide +kernel
theorem dL_law__376 : decode cL_law_ 376 = .ok (.istore 5, 2) := by decide +kernel
theorem dL_law__378 : decode cL_law_ 378 = .ok (.aload_n 2, 1) := by decide +kernel
theorem dL_law__379 : decode cL_law_ 379 = .ok (.aload_n 0, 1) := by decide +kernel
theorem dL_law__380 : decode cL_law_ 380 = .ok (.iload 4, 2) := by decide +kernel
theorem dL_law__382 : decode cL_law_ 382 = .ok (.iconst 1, 1) := by decide +kernel
theorem dL_law__383 : decode cL_law_ 383 = .ok (.iadd, 1) := by decide +kernel
theorem dL_law__384 : decode cL_law_ 384 = .ok (.iaload, 1) := by decide +kernel
theorem dL_law__385 : decode cL_law_ 385 = .ok (.invokevirtual 137, 3) := by decide +kernel
theorem dL_law__388 : decode cL_law_ 388 = .ok (.istore 6, 2) := by decide +kernel
theorem dL_law__390 : decode cL_law_ 390 = .ok (.aload_n 2, 1) := by decide +kernel
theorem dL_law__391 : decode cL_law_ 391 = .ok (.invokevirtual 131, 3) := by decide +kernel
theorem dL_law__394 : decode cL_law_ 394 = .ok (.iload 5, 2) := by decide +kernel
theorem dL_law__396 : decode cL_law_ 396 = .ok (.if_icmp .eq 5, 3) := by decide +kernel
theorem dL_law__399 : decode cL_law_ 399 = .ok (.iconst 0, 1) := by decide +kernel
theorem dL_law__400 : decode cL_law_ 400 = .ok (.ireturn, 1) := by decide +kernel
theorem dL_law__401 : decode cL_law_ 401 = .ok (.iload 5, 2) := by decide +kernel
theorem dL_law__403 : decode cL_law_ 403 = .ok (.ifCond .ne 15, 3) := by decide +kernel
theorem dL_law__406 : decode cL_law_ 406 = .ok (.aload_n 3, 1) := by decide +kernel
theorem dL_law__407 : decode cL_law_ 407 = .ok (.iconst 0, 1) := by decide +kernel
theorem dL_law__408 : decode cL_law_ 408 = .ok (.laload, 1) := by decide +kernel
theorem dL_law__409 : decode cL_law_ 409 = .ok (.iload 6, 2) := by decide +kernel
theorem dL_law__411 : decode cL_law_ 411 = .ok (.i2l, 1) := by decide +kernel
theorem dL_law__412 : decode cL_law_ 412 = .ok (.lcmp, 1) := by decide +kernel
theorem dL_law__413 : decode cL_law_ 413 = .ok (.ifCond .eq 5, 3) := by decide +kernel
theorem dL_law__416 : decode cL_law_ 416 = .ok (.iconst 0, 1) := by decide +kernel
theorem dL_law__417 : decode cL_law_ 417 = .ok (.ireturn, 1) := by decide +kernel
theorem dL_law__418 : decode cL_law_ 418 = .ok (.goto 2311, 3) := by decide +kernel
theorem dL_law__421 : decode cL_law_ 421 = .ok (.aload_n 1, 1) := by decide +kernel
theorem dL_law__422 : decode cL_law_ 422 = .ok (.aload_n 0, 1) := by decide +kernel
theorem dL_law__423 : decode cL_law_ 423 = .ok (.iload 4, 2) := by decide +kernel
theorem dL_law__425 : decode cL_law_ 425 = .ok (.iconst 1, 1) := by decide +kernel
theorem dL_law__426 : decode cL_law_ 426 = .ok (.iadd, 1) := by decide +kernel
theorem dL_law__427 : decode cL_law_ 427 = .ok (.iaload, 1) := by decide +kernel
theorem dL_law__428 : decode cL_law_ 428 = .ok (.aload_n 3, 1) := by decide +kernel
theorem dL_law__429 : decode cL_law_ 429 = .ok (.invokestatic 138, 3) := by decide +kernel
theorem dL_law__432 : decode cL_law_ 432 = .ok (.istore 5, 2) := by decide +kernel
theorem dL_law__434 : decode cL_law_ 434 = .ok (.aload_n 2, 1) := by decide +kernel
theorem dL_law__435 : decode cL_law_ 435 = .ok (.aload_n 0, 1) := by decide +kernel
theorem dL_law__436 : decode cL_law_ 436 = .ok (.iload 4, 2) := by decide +kernel
theorem dL_law__438 : decode cL_law_ 438 = .ok (.iconst 1, 1) := by decide +kernel
theorem dL_law__439 : decode cL_law_ 439 = .ok (.iadd, 1) := by decide +kernel
theorem dL_law__440 : decode cL_law_ 440 = .ok (.iaload, 1) := by decide +kernel
theorem dL_law__441 : decode cL_law_ 441 = .ok (.invokevirtual 140, 3) := by decide +kernel
theorem dL_law__444 : decode cL_law_ 444 = .ok (.istore 6, 2) := by decide +kernel
theorem dL_law__446 : decode cL_law_ 446 = .ok (.aload_n 2, 1) := by decide +kernel
theorem dL_law__447 : decode cL_law_ 447 = .ok (.invokevirtual 131, 3) := by decide +kernel
theorem dL_law__450 : decode cL_law_ 450 = .ok (.iload 5, 2) := by decide +kernel
theorem dL_law__452 : decode cL_law_ 452 = .ok (.if_icmp .eq 5, 3) := by decide +kernel
theorem dL_law__455 : decode cL_law_ 455 = .ok (.iconst 0, 1) := by decide +kernel
theorem dL_law__456 : decode cL_law_ 456 = .ok (.ireturn, 1) := by decide +kernel
theorem dL_law__457 : decode cL_law_ 457 = .ok (.iload 5, 2) := by decide +kernel
theorem dL_law__459 : decode cL_law_ 459 = .ok (.ifCond .ne 15, 3) := by decide +kernel
theorem dL_law__462 : decode cL_law_ 462 = .ok (.aload_n 3, 1) := by decide +kernel
theorem dL_law__463 : decode cL_law_ 463 = .ok (.iconst 0, 1) := by decide +kernel
theorem dL_law__464 : decode cL_law_ 464 = .ok (.laload, 1) := by decide +kernel
theorem dL_law__465 : decode cL_law_ 465 = .ok (.iload 6, 2) := by decide +kernel
theorem dL_law__467 : decode cL_law_ 467 = .ok (.i2l, 1) := by decide +kernel
theorem dL_law__468 : decode cL_law_ 468 = .ok (.lcmp, 1) := by decide +kernel
theorem dL_law__469 : decode cL_law_ 469 = .ok (.ifCond .eq 5, 3) := by decide +kernel
theorem dL_law__472 : decode cL_law_ 472 = .ok (.iconst 0, 1) := by decide +kernel
theorem dL_law__473 : decode cL_law_ 473 = .ok (.ireturn, 1) := by decide +kernel
theorem dL_law__474 : decode cL_law_ 474 = .ok (.goto 2255, 3) := by decide +kernel
theorem dL_law__477 : decode cL_law_ 477 = .ok (.aload_n 1, 1) := by decide +kernel
theorem dL_law__478 : decode cL_law_ 478 = .ok (.aload_n 0, 1) := by decide +kernel
theorem dL_law__479 : decode cL_law_ 479 = .ok (.iload 4, 2) := by decide +kernel
theorem dL_law__481 : decode cL_law_ 481 = .ok (.iconst 1, 1) := by decide +kernel
theorem dL_law__482 : decode cL_law_ 482 = .ok (.iadd, 1) := by decide +kernel
theorem dL_law__483 : decode cL_law_ 483 = .ok (.iaload, 1) := by decide +kernel
theorem dL_law__484 : decode cL_law_ 484 = .ok (.aload_n 3, 1) := by decide +kernel
theorem dL_law__485 : decode cL_law_ 485 = .ok (.invokestatic 141, 3) := by decide +kernel
theorem dL_law__488 : decode cL_law_ 488 = .ok (.istore 5, 2) := by decide +kernel
theorem dL_law__490 : decode cL_law_ 490 = .ok (.aload_n 2, 1) := by decide +kernel
theorem dL_law__491 : decode cL_law_ 491 = .ok (.aload_n 0, 1) := by decide +kernel
theorem dL_law__492 : decode cL_law_ 492 = .ok (.iload 4, 2) := by decide +kernel
theorem dL_law__494 : decode cL_law_ 494 = .ok (.iconst 1, 1) := by decide +kernel
theorem dL_law__495 : decode cL_law_ 495 = .ok (.iadd, 1) := by decide +kernel
theorem dL_law__496 : decode cL_law_ 496 = .ok (.iaload, 1) := by decide +kernel
theorem dL_law__497 : decode cL_law_ 497 = .ok (.invokevirtual 143, 3) := by decide +kernel
theorem dL_law__500 : decode cL_law_ 500 = .ok (.istore 6, 2) := by decide +kernel
theorem dL_law__502 : decode cL_law_ 502 = .ok (.aload_n 2, 1) := by decide +kernel
theorem dL_law__503 : decode cL_law_ 503 = .ok (.invokevirtual 131, 3) := by decide +kernel
theorem dL_law__506 : decode cL_law_ 506 = .ok (.iload 5, 2) := by decide +kernel
theorem dL_law__508 : decode cL_law_ 508 = .ok (.if_icmp .eq 5, 3) := by decide +kernel
theorem dL_law__511 : decode cL_law_ 511 = .ok (.iconst 0, 1) := by decide +kernel
theorem dL_law__512 : decode cL_law_ 512 = .ok (.ireturn, 1) := by decide +kernel
theorem dL_law__513 : decode cL_law_ 513 = .ok (.iload 5, 2) := by decide +kernel
theorem dL_law__515 : decode cL_law_ 515 = .ok (.ifCond .ne 15, 3) := by decide +kernel
theorem dL_law__518 : decode cL_law_ 518 = .ok (.aload_n 3, 1) := by decide +kernel
theorem dL_law__519 : decode cL_law_ 519 = .ok (.iconst 0, 1) := by decide +kernel
theorem dL_law__520 : decode cL_law_ 520 = .ok (.laload, 1) := by decide +kernel
theorem dL_law__521 : decode cL_law_ 521 = .ok (.iload 6, 2) := by decide +kernel
theorem dL_law__523 : decode cL_law_ 523 = .ok (.i2l, 1) := by decide +kernel
theorem dL_law__524 : decode cL_law_ 524 = .ok (.lcmp, 1) := by decide +kernel
theorem dL_law__525 : decode cL_law_ 525 = .ok (.ifCond .eq 5, 3) := by decide +kernel
theorem dL_law__528 : decode cL_law_ 528 = .ok (.iconst 0, 1) := by decide +kernel
theorem dL_law__529 : decode cL_law_ 529 = .ok (.ireturn, 1) := by decide +kernel
theorem dL_law__530 : decode cL_law_ 530 = .ok (.goto 2199, 3) := by decide +kernel
theorem dL_law__533 : decode cL_law_ 533 = .ok (.aload_n 1, 1) := by decide +kernel
theorem dL_law__534 : decode cL_law_ 534 = .ok (.invokevirtual 144, 3) := by decide +kernel
theorem dL_law__537 : decode cL_law_ 537 = .ok (.aload_n 2, 1) := by decide +kernel
theorem dL_law__538 : decode cL_law_ 538 = .ok (.invokevirtual 147, 3) := by decide +kernel
theorem dL_law__541 : decode cL_law_ 541 = .ok (.if_icmp .eq 2188, 3) := by decide +kernel
theorem dL_law__544 : decode cL_law_ 544 = .ok (.iconst 0, 1) := by decide +kernel
theorem dL_law__545 : decode cL_law_ 545 = .ok (.ireturn, 1) := by decide +kernel
theorem dL_law__546 : decode cL_law_ 546 = .ok (.aload_n 1, 1) := by decide +kernel
theorem dL_law__547 : decode cL_law_ 547 = .ok (.invokevirtual 148, 3) := by decide +kernel
theorem dL_law__550 : decode cL_law_ 550 = .ok (.aload_n 2, 1) := by decide +kernel
theorem dL_law__551 : decode cL_law_ 551 = .ok (.invokevirtual 151, 3) := by decide +kernel
theorem dL_law__554 : decode cL_law_ 554 = .ok (.if_icmp .eq 2175, 3) := by decide +kernel
theorem dL_law__557 : decode cL_law_ 557 = .ok (.iconst 0, 1) := by decide +kernel
theorem dL_law__558 : decode cL_law_ 558 = .ok (.ireturn, 1) := by decide +kernel
theorem dL_law__559 : decode cL_law_ 559 = .ok (.aload_n 1, 1) := by decide +kernel
theorem dL_law__560 : decode cL_law_ 560 = .ok (.aload_n 0, 1) := by decide +kernel
theorem dL_law__561 : decode cL_law_ 561 = .ok (.iload 4, 2) := by decide +kernel
theorem dL_law__563 : decode cL_law_ 563 = .ok (.iconst 1, 1) := by decide +kernel
theorem dL_law__564 : decode cL_law_ 564 = .ok (.iadd, 1) := by decide +kernel
theorem dL_law__565 : decode cL_law_ 565 = .ok (.iaload, 1) := by decide +kernel
theorem dL_law__566 : decode cL_law_ 566 = .ok (.aload_n 3, 1) := by decide +kernel
theorem dL_law__567 : decode cL_law_ 567 = .ok (.invokestatic 152, 3) := by decide +kernel
theorem dL_law__570 : decode cL_law_ 570 = .ok (.istore 5, 2) := by decide +kernel
theorem dL_law__572 : decode cL_law_ 572 = .ok (.aload_n 2, 1) := by decide +kernel
theorem dL_law__573 : decode cL_law_ 573 = .ok (.aload_n 0, 1) := by decide +kernel
theorem dL_law__574 : decode cL_law_ 574 = .ok (.iload 4, 2) := by decide +kernel
theorem dL_law__576 : decode cL_law_ 576 = .ok (.iconst 1, 1) := by decide +kernel
theorem dL_law__577 : decode cL_law_ 577 = .ok (.iadd, 1) := by decide +kernel
theorem dL_law__578 : decode cL_law_ 578 = .ok (.iaload, 1) := by decide +kernel
theorem dL_law__579 : decode cL_law_ 579 = .ok (.invokevirtual 154, 3) := by decide +kernel
theorem dL_law__582 : decode cL_law_ 582 = .ok (.istore 6, 2) := by decide +kernel
theorem dL_law__584 : decode cL_law_ 584 = .ok (.aload_n 2, 1) := by decide +kernel
theorem dL_law__585 : decode cL_law_ 585 = .ok (.invokevirtual 131, 3) := by decide +kernel
theorem dL_law__588 : decode cL_law_ 588 = .ok (.iload 5, 2) := by decide +kernel
theorem dL_law__590 : decode cL_law_ 590 = .ok (.if_icmp .eq 5, 3) := by decide +kernel
theorem dL_law__593 : decode cL_law_ 593 = .ok (.iconst 0, 1) := by decide +kernel
theorem dL_law__594 : decode cL_law_ 594 = .ok (.ireturn, 1) := by decide +kernel
theorem dL_law__595 : decode cL_law_ 595 = .ok (.iload 5, 2) := by decide +kernel
theorem dL_law__597 : decode cL_law_ 597 = .ok (.ifCond .ne 15, 3) := by decide +kernel
theorem dL_law__600 : decode cL_law_ 600 = .ok (.aload_n 3, 1) := by decide +kernel
theorem dL_law__601 : decode cL_law_ 601 = .ok (.iconst 0, 1) := by decide +kernel
theorem dL_law__602 : decode cL_law_ 602 = .ok (.laload, 1) := by decide +kernel
theorem dL_law__603 : decode cL_law_ 603 = .ok (.iload 6, 2) := by decide +kernel
theorem dL_law__605 : decode cL_law_ 605 = .ok (.i2l, 1) := by decide +kernel
theorem dL_law__606 : decode cL_law_ 606 = .ok (.lcmp, 1) := by decide +kernel
theorem dL_law__607 : decode cL_law_ 607 = .ok (.ifCond .eq 5, 3) := by decide +kernel
theorem dL_law__610 : decode cL_law_ 610 = .ok (.iconst 0, 1) := by decide +kernel
theorem dL_law__611 : decode cL_law_ 611 = .ok (.ireturn, 1) := by decide +kernel
theorem dL_law__612 : decode cL_law_ 612 = .ok (.goto 2117, 3) := by decide +kernel
theorem dL_law__615 : decode cL_law_ 615 = .ok (.aload_n 1, 1) := by decide +kernel
theorem dL_law__616 : decode cL_law_ 616 = .ok (.aload_n 0, 1) := by decide +kernel
theorem dL_law__617 : decode cL_law_ 617 = .ok (.iload 4, 2) := by decide +kernel
theorem dL_law__619 : decode cL_law_ 619 = .ok (.iconst 1, 1) := by decide +kernel
theorem dL_law__620 : decode cL_law_ 620 = .ok (.iadd, 1) := by decide +kernel
theorem dL_law__621 : decode cL_law_ 621 = .ok (.iaload, 1) := by decide +kernel
theorem dL_law__622 : decode cL_law_ 622 = .ok (.aload_n 0, 1) := by decide +kernel
theorem dL_law__623 : decode cL_law_ 623 = .ok (.iload 4, 2) := by decide +kernel
theorem dL_law__625 : decode cL_law_ 625 = .ok (.iconst 2, 1) := by decide +kernel
theorem dL_law__626 : decode cL_law_ 626 = .ok (.iadd, 1) := by decide +kernel
theorem dL_law__627 : decode cL_law_ 627 = .ok (.iaload, 1) := by decide +kernel
theorem dL_law__628 : decode cL_law_ 628 = .ok (.aload_n 3, 1) := by decide +kernel
theorem dL_law__629 : decode cL_law_ 629 = .ok (.invokestatic 155, 3) := by decide +kernel
theorem dL_law__632 : decode cL_law_ 632 = .ok (.istore 5, 2) := by decide +kernel
theorem dL_law__634 : decode cL_law_ 634 = .ok (.aload_n 2, 1) := by decide +kernel
theorem dL_law__635 : decode cL_law_ 635 = .ok (.aload_n 0, 1) := by decide +kernel
theorem dL_law__636 : decode cL_law_ 636 = .ok (.iload 4, 2) := by decide +kernel
theorem dL_law__638 : decode cL_law_ 638 = .ok (.iconst 1, 1) := by decide +kernel
theorem dL_law__639 : decode cL_law_ 639 = .ok (.iadd, 1) := by decide +kernel
theorem dL_law__640 : decode cL_law_ 640 = .ok (.iaload, 1) := by decide +kernel
theorem dL_law__641 : decode cL_law_ 641 = .ok (.aload_n 0, 1) := by decide +kernel
theorem dL_law__642 : decode cL_law_ 642 = .ok (.iload 4, 2) := by decide +kernel
theorem dL_law__644 : decode cL_law_ 644 = .ok (.iconst 2, 1) := by decide +kernel
theorem dL_law__645 : decode cL_law_ 645 = .ok (.iadd, 1) := by decide +kernel
theorem dL_law__646 : decode cL_law_ 646 = .ok (.iaload, 1) := by decide +kernel
theorem dL_law__647 : decode cL_law_ 647 = .ok (.invokevirtual 158, 3) := by decide +kernel
theorem dL_law__650 : decode cL_law_ 650 = .ok (.istore 6, 2) := by decide +kernel
theorem dL_law__652 : decode cL_law_ 652 = .ok (.aload_n 2, 1) := by decide +kernel
theorem dL_law__653 : decode cL_law_ 653 = .ok (.invokevirtual 131, 3) := by decide +kernel
theorem dL_law__656 : decode cL_law_ 656 = .ok (.iload 5, 2) := by decide +kernel
theorem dL_law__658 : decode cL_law_ 658 = .ok (.if_icmp .eq 5, 3) := by decide +kernel
theorem dL_law__661 : decode cL_law_ 661 = .ok (.iconst 0, 1) := by decide +kernel
theorem dL_law__662 : decode cL_law_ 662 = .ok (.ireturn, 1) := by decide +kernel
theorem dL_law__663 : decode cL_law_ 663 = .ok (.iload 5, 2) := by decide +kernel
theorem dL_law__665 : decode cL_law_ 665 = .ok (.ifCond .ne 15, 3) := by decide +kernel
theorem dL_law__668 : decode cL_law_ 668 = .ok (.aload_n 3, 1) := by decide +kernel
theorem dL_law__669 : decode cL_law_ 669 = .ok (.iconst 0, 1) := by decide +kernel
theorem dL_law__670 : decode cL_law_ 670 = .ok (.laload, 1) := by decide +kernel
theorem dL_law__671 : decode cL_law_ 671 = .ok (.iload 6, 2) := by decide +kernel
theorem dL_law__673 : decode cL_law_ 673 = .ok (.i2l, 1) := by decide +kernel
theorem dL_law__674 : decode cL_law_ 674 = .ok (.lcmp, 1) := by decide +kernel
theorem dL_law__675 : decode cL_law_ 675 = .ok (.ifCond .eq 5, 3) := by decide +kernel
theorem dL_law__678 : decode cL_law_ 678 = .ok (.iconst 0, 1) := by decide +kernel
theorem dL_law__679 : decode cL_law_ 679 = .ok (.ireturn, 1) := by decide +kernel
theorem dL_law__680 : decode cL_law_ 680 = .ok (.goto 2049, 3) := by decide +kernel
theorem dL_law__683 : decode cL_law_ 683 = .ok (.aload_n 1, 1) := by decide +kernel
theorem dL_law__684 : decode cL_law_ 684 = .ok (.aload_n 0, 1) := by decide +kernel
theorem dL_law__685 : decode cL_law_ 685 = .ok (.iload 4, 2) := by decide +kernel
theorem dL_law__687 : decode cL_law_ 687 = .ok (.iconst 1, 1) := by decide +kernel
theorem dL_law__688 : decode cL_law_ 688 = .ok (.iadd, 1) := by decide +kernel
theorem dL_law__689 : decode cL_law_ 689 = .ok (.iaload, 1) := by decide +kernel
theorem dL_law__690 : decode cL_law_ 690 = .ok (.aload_n 0, 1) := by decide +kernel
theorem dL_law__691 : decode cL_law_ 691 = .ok (.iload 4, 2) := by decide +kernel
theorem dL_law__693 : decode cL_law_ 693 = .ok (.iconst 2, 1) := by decide +kernel
theorem dL_law__694 : decode cL_law_ 694 = .ok (.iadd, 1) := by decide +kernel
theorem dL_law__695 : decode cL_law_ 695 = .ok (.iaload, 1) := by decide +kernel
theorem dL_law__696 : decode cL_law_ 696 = .ok (.aload_n 3, 1) := by decide +kernel
theorem dL_law__697 : decode cL_law_ 697 = .ok (.invokestatic 159, 3) := by decide +kernel
theorem dL_law__700 : decode cL_law_ 700 = .ok (.istore 5, 2) := by decide +kernel
theorem dL_law__702 : decode cL_law_ 702 = .ok (.aload_n 2, 1) := by decide +kernel
theorem dL_law__703 : decode cL_law_ 703 = .ok (.aload_n 0, 1) := by decide +kernel
theorem dL_law__704 : decode cL_law_ 704 = .ok (.iload 4, 2) := by decide +kernel
theorem dL_law__706 : decode cL_law_ 706 = .ok (.iconst 1, 1) := by decide +kernel
theorem dL_law__707 : decode cL_law_ 707 = .ok (.iadd, 1) := by decide +kernel
theorem dL_law__708 : decode cL_law_ 708 = .ok (.iaload, 1) := by decide +kernel
theorem dL_law__709 : decode cL_law_ 709 = .ok (.aload_n 0, 1) := by decide +kernel
theorem dL_law__710 : decode cL_law_ 710 = .ok (.iload 4, 2) := by decide +kernel
theorem dL_law__712 : decode cL_law_ 712 = .ok (.iconst 2, 1) := by decide +kernel
theorem dL_law__713 : decode cL_law_ 713 = .ok (.iadd, 1) := by decide +kernel
theorem dL_law__714 : decode cL_law_ 714 = .ok (.iaload, 1) := by decide +kernel
theorem dL_law__715 : decode cL_law_ 715 = .ok (.invokevirtual 161, 3) := by decide +kernel
theorem dL_law__718 : decode cL_law_ 718 = .ok (.istore 6, 2) := by decide +kernel
theorem dL_law__720 : decode cL_law_ 720 = .ok (.aload_n 2, 1) := by decide +kernel
theorem dL_law__721 : decode cL_law_ 721 = .ok (.invokevirtual 131, 3) := by decide +kernel
theorem dL_law__724 : decode cL_law_ 724 = .ok (.iload 5, 2) := by decide +kernel
theorem dL_law__726 : decode cL_law_ 726 = .ok (.if_icmp .eq 5, 3) := by decide +kernel
theorem dL_law__729 : decode cL_law_ 729 = .ok (.iconst 0, 1) := by decide +kernel
theorem dL_law__730 : decode cL_law_ 730 = .ok (.ireturn, 1) := by decide +kernel
theorem dL_law__731 : decode cL_law_ 731 = .ok (.iload 5, 2) := by decide +kernel
theorem dL_law__733 : decode cL_law_ 733 = .ok (.ifCond .ne 15, 3) := by decide +kernel
theorem dL_law__736 : decode cL_law_ 736 = .ok (.aload_n 3, 1) := by decide +kernel
theorem dL_law__737 : decode cL_law_ 737 = .ok (.iconst 0, 1) := by decide +kernel
theorem dL_law__738 : decode cL_law_ 738 = .ok (.laload, 1) := by decide +kernel
theorem dL_law__739 : decode cL_law_ 739 = .ok (.iload 6, 2) := by decide +kernel
theorem dL_law__741 : decode cL_law_ 741 = .ok (.i2l, 1) := by decide +kernel
theorem dL_law__742 : decode cL_law_ 742 = .ok (.lcmp, 1) := by decide +kernel
theorem dL_law__743 : decode cL_law_ 743 = .ok (.ifCond .eq 5, 3) := by decide +kernel
theorem dL_law__746 : decode cL_law_ 746 = .ok (.iconst 0, 1) := by decide +kernel
theorem dL_law__747 : decode cL_law_ 747 = .ok (.ireturn, 1) := by decide +kernel
theorem dL_law__748 : decode cL_law_ 748 = .ok (.goto 1981, 3) := by decide +kernel
theorem dL_law__751 : decode cL_law_ 751 = .ok (.aload_n 1, 1) := by decide +kernel
theorem dL_law__752 : decode cL_law_ 752 = .ok (.aload_n 0, 1) := by decide +kernel
theorem dL_law__753 : decode cL_law_ 753 = .ok (.iload 4, 2) := by decide +kernel
theorem dL_law__755 : decode cL_law_ 755 = .ok (.iconst 1, 1) := by decide +kernel
theorem dL_law__756 : decode cL_law_ 756 = .ok (.iadd, 1) := by decide +kernel
theorem dL_law__757 : decode cL_law_ 757 = .ok (.iaload, 1) := by decide +kernel
theorem dL_law__758 : decode cL_law_ 758 = .ok (.aload_n 0, 1) := by decide +kernel
theorem dL_law__759 : decode cL_law_ 759 = .ok (.iload 4, 2) := by decide +kernel
theorem dL_law__761 : decode cL_law_ 761 = .ok (.iconst 2, 1) := by decide +kernel
theorem dL_law__762 : decode cL_law_ 762 = .ok (.iadd, 1) := by decide +kernel
theorem dL_law__763 : decode cL_law_ 763 = .ok (.iaload, 1) := by decide +kernel
theorem dL_law__764 : decode cL_law_ 764 = .ok (.aload_n 3, 1) := by decide +kernel
theorem dL_law__765 : decode cL_law_ 765 = .ok (.invokestatic 162, 3) := by decide +kernel
theorem dL_law__768 : decode cL_law_ 768 = .ok (.istore 5, 2) := by decide +kernel
theorem dL_law__770 : decode cL_law_ 770 = .ok (.aload_n 2, 1) := by decide +kernel
theorem dL_law__771 : decode cL_law_ 771 = .ok (.aload_n 0, 1) := by decide +kernel
theorem dL_law__772 : decode cL_law_ 772 = .ok (.iload 4, 2) := by decide +kernel
theorem dL_law__774 : decode cL_law_ 774 = .ok (.iconst 1, 1) := by decide +kernel
theorem dL_law__775 : decode cL_law_ 775 = .ok (.iadd, 1) := by decide +kernel
theorem dL_law__776 : decode cL_law_ 776 = .ok (.iaload, 1) := by decide +kernel
theorem dL_law__777 : decode cL_law_ 777 = .ok (.aload_n 0, 1) := by decide +kernel
theorem dL_law__778 : decode cL_law_ 778 = .ok (.iload 4, 2) := by decide +kernel
theorem dL_law__780 : decode cL_law_ 780 = .ok (.iconst 2, 1) := by decide +kernel
theorem dL_law__781 : decode cL_law_ 781 = .ok (.iadd, 1) := by decide +kernel
theorem dL_law__782 : decode cL_law_ 782 = .ok (.iaload, 1) := by decide +kernel
theorem dL_law__783 : decode cL_law_ 783 = .ok (.invokevirtual 164, 3) := by decide +kernel
theorem dL_law__786 : decode cL_law_ 786 = .ok (.istore 6, 2) := by decide +kernel
theorem dL_law__788 : decode cL_law_ 788 = .ok (.aload_n 2, 1) := by decide +kernel
theorem dL_law__789 : decode cL_law_ 789 = .ok (.invokevirtual 131, 3) := by decide +kernel
theorem dL_law__792 : decode cL_law_ 792 = .ok (.iload 5, 2) := by decide +kernel
theorem dL_law__794 : decode cL_law_ 794 = .ok (.if_icmp .eq 5, 3) := by decide +kernel
theorem dL_law__797 : decode cL_law_ 797 = .ok (.iconst 0, 1) := by decide +kernel
theorem dL_law__798 : decode cL_law_ 798 = .ok (.ireturn, 1) := by decide +kernel
theorem dL_law__799 : decode cL_law_ 799 = .ok (.iload 5, 2) := by decide +kernel
theorem dL_law__801 : decode cL_law_ 801 = .ok (.ifCond .ne 15, 3) := by decide +kernel
theorem dL_law__804 : decode cL_law_ 804 = .ok (.aload_n 3, 1) := by decide +kernel
theorem dL_law__805 : decode cL_law_ 805 = .ok (.iconst 0, 1) := by decide +kernel
theorem dL_law__806 : decode cL_law_ 806 = .ok (.laload, 1) := by decide +kernel
theorem dL_law__807 : decode cL_law_ 807 = .ok (.iload 6, 2) := by decide +kernel
theorem dL_law__809 : decode cL_law_ 809 = .ok (.i2l, 1) := by decide +kernel
theorem dL_law__810 : decode cL_law_ 810 = .ok (.lcmp, 1) := by decide +kernel
theorem dL_law__811 : decode cL_law_ 811 = .ok (.ifCond .eq 5, 3) := by decide +kernel
theorem dL_law__814 : decode cL_law_ 814 = .ok (.iconst 0, 1) := by decide +kernel
theorem dL_law__815 : decode cL_law_ 815 = .ok (.ireturn, 1) := by decide +kernel
theorem dL_law__816 : decode cL_law_ 816 = .ok (.goto 1913, 3) := by decide +kernel
theorem dL_law__819 : decode cL_law_ 819 = .ok (.aload_n 1, 1) := by decide +kernel
theorem dL_law__820 : decode cL_law_ 820 = .ok (.aload_n 0, 1) := by decide +kernel
theorem dL_law__821 : decode cL_law_ 821 = .ok (.iload 4, 2) := by decide +kernel
theorem dL_law__823 : decode cL_law_ 823 = .ok (.iconst 1, 1) := by decide +kernel
theorem dL_law__824 : decode cL_law_ 824 = .ok (.iadd, 1) := by decide +kernel
theorem dL_law__825 : decode cL_law_ 825 = .ok (.iaload, 1) := by decide +kernel
theorem dL_law__826 : decode cL_law_ 826 = .ok (.aload_n 3, 1) := by decide +kernel
theorem dL_law__827 : decode cL_law_ 827 = .ok (.invokestatic 165, 3) := by decide +kernel
theorem dL_law__830 : decode cL_law_ 830 = .ok (.istore 5, 2) := by decide +kernel
theorem dL_law__832 : decode cL_law_ 832 = .ok (.aload_n 2, 1) := by decide +kernel
theorem dL_law__833 : decode cL_law_ 833 = .ok (.aload_n 0, 1) := by decide +kernel
theorem dL_law__834 : decode cL_law_ 834 = .ok (.iload 4, 2) := by decide +kernel
theorem dL_law__836 : decode cL_law_ 836 = .ok (.iconst 1, 1) := by decide +kernel
theorem dL_law__837 : decode cL_law_ 837 = .ok (.iadd, 1) := by decide +kernel
