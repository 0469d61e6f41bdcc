set_option maxRecDepth 100000 in
theorem dL_law__0 : D mL_law_ 0 (.new 8) 3 3 := ⟨by decide +kernel, rfl⟩
set_option maxRecDepth 100000 in
theorem dL_law__3 : D mL_law_ 3 (.dup) 1 4 := ⟨by decide +kernel, rfl⟩
set_option maxRecDepth 100000 in
theorem dL_law__4 : D mL_law_ 4 (.invokespecial 127) 3 7 := ⟨by decide +kernel, rfl⟩
set_option maxRecDepth 100000 in
theorem dL_law__7 : D mL_law_ 7 (.astore_n 1) 1 8 := ⟨by decide +kernel, rfl⟩
set_option maxRecDepth 100000 in
theorem dL_law__8 : D mL_law_ 8 (.new 128) 3 11 := ⟨by decide +kernel, rfl⟩
set_option maxRecDepth 100000 in
theorem dL_law__11 : D mL_law_ 11 (.dup) 1 12 := ⟨by decide +kernel, rfl⟩
set_option maxRecDepth 100000 in
theorem dL_law__12 : D mL_law_ 12 (.invokespecial 130) 3 15 := ⟨by decide +kernel, rfl⟩
set_option maxRecDepth 100000 in
theorem dL_law__15 : D mL_law_ 15 (.astore_n 2) 1 16 := ⟨by decide +kernel, rfl⟩
set_option maxRecDepth 100000 in
theorem dL_law__16 : D mL_law_ 16 (.iconst 1) 1 17 := ⟨by decide +kernel, rfl⟩
set_option maxRecDepth 100000 in
theorem dL_law__17 : D mL_law_ 17 (.newarray .long) 2 19 := ⟨by decide +kernel, rfl⟩
set_option maxRecDepth 100000 in
theorem dL_law__19 : D mL_law_ 19 (.astore_n 3) 1 20 := ⟨by decide +kernel, rfl⟩
set_option maxRecDepth 100000 in
theorem dL_law__20 : D mL_law_ 20 (.iconst 0) 1 21 := ⟨by decide +kernel, rfl⟩
set_option maxRecDepth 100000 in
theorem dL_law__21 : D mL_law_ 21 (.istore 4) 2 23 := ⟨by decide +kernel, rfl⟩
set_option maxRecDepth 100000 in
theorem dL_law__23 : D mL_law_ 23 (.iload 4) 2 25 := ⟨by decide +kernel, rfl⟩
set_option maxRecDepth 100000 in
theorem dL_law__25 : D mL_law_ 25 (.aload_n 0) 1 26 := ⟨by decide +kernel, rfl⟩
set_option maxRecDepth 100000 in
theorem dL_law__26 : D mL_law_ 26 (.arraylength) 1 27 := ⟨by decide +kernel, rfl⟩
set_option maxRecDepth 100000 in
theorem dL_law__27 : D mL_law_ 27 (.bipush 6) 2 29 := ⟨by decide +kernel, rfl⟩
set_option maxRecDepth 100000 in
theorem dL_law__29 : D mL_law_ 29 (.isub) 1 30 := ⟨by decide +kernel, rfl⟩
set_option maxRecDepth 100000 in
theorem dL_law__30 : DI mL_law_ 30 (Instr.if_icmp .gt) 33 2865 := ⟨2835, by decide +kernel, rfl, rfl⟩
set_option maxRecDepth 100000 in
theorem dL_law__33 : D mL_law_ 33 (.aload_n 0) 1 34 := ⟨by decide +kernel, rfl⟩
set_option maxRecDepth 100000 in
theorem dL_law__34 : D mL_law_ 34 (.iload 4) 2 36 := ⟨by decide +kernel, rfl⟩
set_option maxRecDepth 100000 in
theorem dL_law__36 : D mL_law_ 36 (.iaload) 1 37 := ⟨by decide +kernel, rfl⟩
set_option maxRecDepth 100000 in
theorem dL_law__37 : D mL_law_ 37 (.bipush 63) 2 39 := ⟨by decide +kernel, rfl⟩
set_option maxRecDepth 100000 in
theorem dL_law__39 : D mL_law_ 39 (.iand) 1 40 := ⟨by decide +kernel, rfl⟩
set_option maxRecDepth 100000 in
theorem dL_law__40 : D mL_law_ 40 (.tableswitch 2819 0 51 #[224, 297, 322, 366, 410, 423, 491, 559, 627, 683, 763, 843, 899, 979, 1047, 1103, 1171, 1239, 1295, 1363, 1431, 1494, 1535, 1548, 1604, 1617, 1630, 1643, 1727, 1783, 1851, 1919, 1987, 2000, 2056, 2069, 2125, 2193, 2206, 2219, 2275, 2331, 2344, 2412, 2496, 2580, 2664, 2732, 2757, 2770, 2781, 2794]) 224 264 := ⟨by decide +kernel, rfl⟩
set_option maxRecDepth 100000 in
theorem dL_law__264 : D mL_law_ 264 (.aload_n 1) 1 265 := ⟨by decide +kernel, rfl⟩
set_option maxRecDepth 100000 in
theorem dL_law__265 : D mL_law_ 265 (.aload_n 0) 1 266 := ⟨by decide +kernel, rfl⟩
set_option maxRecDepth 100000 in
theorem dL_law__266 : D mL_law_ 266 (.iload 4) 2 268 := ⟨by decide +kernel, rfl⟩
set_option maxRecDepth 100000 in
theorem dL_law__268 : D mL_law_ 268 (.iconst 1) 1 269 := ⟨by decide +kernel, rfl⟩
set_option maxRecDepth 100000 in
theorem dL_law__269 : D mL_law_ 269 (.iadd) 1 270 := ⟨by decide +kernel, rfl⟩
set_option maxRecDepth 100000 in
theorem dL_law__270 : D mL_law_ 270 (.iaload) 1 271 := ⟨by decide +kernel, rfl⟩
set_option maxRecDepth 100000 in
theorem dL_law__271 : D mL_law_ 271 (.aload_n 0) 1 272 := ⟨by decide +kernel, rfl⟩
set_option maxRecDepth 100000 in
theorem dL_law__272 : D mL_law_ 272 (.iload 4) 2 274 := ⟨by decide +kernel, rfl⟩
set_option maxRecDepth 100000 in
theorem dL_law__274 : D mL_law_ 274 (.iconst 2) 1 275 := ⟨by decide +kernel, rfl⟩
set_option maxRecDepth 100000 in
theorem dL_law__275 : D mL_law_ 275 (.iadd) 1 276 := ⟨by decide +kernel, rfl⟩
set_option maxRecDepth 100000 in
theorem dL_law__276 : D mL_law_ 276 (.iaload) 1 277 := ⟨by decide +kernel, rfl⟩
set_option maxRecDepth 100000 in
theorem dL_law__277 : D mL_law_ 277 (.aload_n 0) 1 278 := ⟨by decide +kernel, rfl⟩
set_option maxRecDepth 100000 in
theorem dL_law__278 : D mL_law_ 278 (.iload 4) 2 280 := ⟨by decide +kernel, rfl⟩
set_option maxRecDepth 100000 in
theorem dL_law__280 : D mL_law_ 280 (.iconst 3) 1 281 := ⟨by decide +kernel, rfl⟩
set_option maxRecDepth 100000 in
theorem dL_law__281 : D mL_law_ 281 (.iadd) 1 282 := ⟨by decide +kernel, rfl⟩
set_option maxRecDepth 100000 in
theorem dL_law__282 : D mL_law_ 282 (.iaload) 1 283 := ⟨by decide +kernel, rfl⟩
set_option maxRecDepth 100000 in
theorem dL_law__283 : D mL_law_ 283 (.aload_n 0) 1 284 := ⟨by decide +kernel, rfl⟩
set_option maxRecDepth 100000 in
theorem dL_law__284 : D mL_law_ 284 (.iload 4) 2 286 := ⟨by decide +kernel, rfl⟩
set_option maxRecDepth 100000 in
theorem dL_law__286 : D mL_law_ 286 (.iconst 4) 1 287 := ⟨by decide +kernel, rfl⟩
set_option maxRecDepth 100000 in
theorem dL_law__287 : D mL_law_ 287 (.iadd) 1 288 := ⟨by decide +kernel, rfl⟩
set_option maxRecDepth 100000 in
theorem dL_law__288 : D mL_law_ 288 (.iaload) 1 289 := ⟨by decide +kernel, rfl⟩
set_option maxRecDepth 100000 in
theorem dL_law__289 : D mL_law_ 289 (.aload_n 0) 1 290 := ⟨by decide +kernel, rfl⟩
set_option maxRecDepth 100000 in
theorem dL_law__290 : D mL_law_ 290 (.iload 4) 2 292 := ⟨by decide +kernel, rfl⟩
set_option maxRecDepth 100000 in
theorem dL_law__292 : D mL_law_ 292 (.iconst 5) 1 293 := ⟨by decide +kernel, rfl⟩
set_option maxRecDepth 100000 in
theorem dL_law__293 : D mL_law_ 293 (.iadd) 1 294 := ⟨by decide +kernel, rfl⟩
set_option maxRecDepth 100000 in
theorem dL_law__294 : D mL_law_ 294 (.iaload) 1 295 := ⟨by decide +kernel, rfl⟩
set_option maxRecDepth 100000 in
theorem dL_law__295 : D mL_law_ 295 (.invokevirtual 131) 3 298 := ⟨by decide +kernel, rfl⟩
set_option maxRecDepth 100000 in
theorem dL_law__298 : D mL_law_ 298 (.aload_n 2) 1 299 := ⟨by decide +kernel, rfl⟩
set_option maxRecDepth 100000 in
theorem dL_law__299 : D mL_law_ 299 (.aload_n 0) 1 300 := ⟨by decide +kernel, rfl⟩
set_option maxRecDepth 100000 in
theorem dL_law__300 : D mL_law_ 300 (.iload 4) 2 302 := ⟨by decide +kernel, rfl⟩
set_option maxRecDepth 100000 in
theorem dL_law__302 : D mL_law_ 302 (.iconst 1) 1 303 := ⟨by decide +kernel, rfl⟩
set_option maxRecDepth 100000 in
theorem dL_law__303 : D mL_law_ 303 (.iadd) 1 304 := ⟨by decide +kernel, rfl⟩
set_option maxRecDepth 100000 in
theorem dL_law__304 : D mL_law_ 304 (.iaload) 1 305 := ⟨by decide +kernel, rfl⟩
set_option maxRecDepth 100000 in
theorem dL_law__305 : D mL_law_ 305 (.aload_n 0) 1 306 := ⟨by decide +kernel, rfl⟩
set_option maxRecDepth 100000 in
theorem dL_law__306 : D mL_law_ 306 (.iload 4) 2 308 := ⟨by decide +kernel, rfl⟩
set_option maxRecDepth 100000 in
theorem dL_law__308 : D mL_law_ 308 (.iconst 2) 1 309 := ⟨by decide +kernel, rfl⟩
set_option maxRecDepth 100000 in
theorem dL_law__309 : D mL_law_ 309 (.iadd) 1 310 := ⟨by decide +kernel, rfl⟩
set_option maxRecDepth 100000 in
theorem dL_law__310 : D mL_law_ 310 (.iaload) 1 311 := ⟨by decide +kernel, rfl⟩
set_option maxRecDepth 100000 in
theorem dL_law__311 : D mL_law_ 311 (.aload_n 0) 1 312 := ⟨by decide +kernel, rfl⟩
set_option maxRecDepth 100000 in
theorem dL_law__312 : D mL_law_ 312 (.iload 4) 2 314 := ⟨by decide +kernel, rfl⟩
set_option maxRecDepth 100000 in
theorem dL_law__314 : D mL_law_ 314 (.iconst 3) 1 315 := ⟨by decide +kernel, rfl⟩
set_option maxRecDepth 100000 in
theorem dL_law__315 : D mL_law_ 315 (.iadd) 1 316 := ⟨by decide +kernel, rfl⟩
set_option maxRecDepth 100000 in
theorem dL_law__316 : D mL_law_ 316 (.iaload) 1 317 := ⟨by decide +kernel, rfl⟩
set_option maxRecDepth 100000 in
theorem dL_law__317 : D mL_law_ 317 (.aload_n 0) 1 318 := ⟨by decide +kernel, rfl⟩
set_option maxRecDepth 100000 in
theorem dL_law__318 : D mL_law_ 318 (.iload 4) 2 320 := ⟨by decide +kernel, rfl⟩
set_option maxRecDepth 100000 in
theorem dL_law__320 : D mL_law_ 320 (.iconst 4) 1 321 := ⟨by decide +kernel, rfl⟩
set_option maxRecDepth 100000 in
theorem dL_law__321 : D mL_law_ 321 (.iadd) 1 322 := ⟨by decide +kernel, rfl⟩
set_option maxRecDepth 100000 in
theorem dL_law__322 : D mL_law_ 322 (.iaload) 1 323 := ⟨by decide +kernel, rfl⟩
set_option maxRecDepth 100000 in
theorem dL_law__323 : D mL_law_ 323 (.aload_n 0) 1 324 := ⟨by decide +kernel, rfl⟩
set_option maxRecDepth 100000 in
theorem dL_law__324 : D mL_law_ 324 (.iload 4) 2 326 := ⟨by decide +kernel, rfl⟩
set_option maxRecDepth 100000 in
theorem dL_law__326 : D mL_law_ 326 (.iconst 5) 1 327 := ⟨by decide +kernel, rfl⟩
set_option maxRecDepth 100000 in
theorem dL_law__327 : D mL_law_ 327 (.iadd) 1 328 := ⟨by decide +kernel, rfl⟩
set_option maxRecDepth 100000 in
theorem dL_law__328 : D mL_law_ 328 (.iaload) 1 329 := ⟨by decide +kernel, rfl⟩
set_option maxRecDepth 100000 in
theorem dL_law__329 : D mL_law_ 329 (.invokevirtual 135) 3 332 := ⟨by decide +kernel, rfl⟩
set_option maxRecDepth 100000 in
theorem dL_law__332 : DI mL_law_ 332 (Instr.if_icmp .eq) 335 2859 := ⟨2527, by decide +kernel, rfl, rfl⟩
set_option maxRecDepth 100000 in
theorem dL_law__335 : D mL_law_ 335 (.iconst 0) 1 336 := ⟨by decide +kernel, rfl⟩
set_option maxRecDepth 100000 in
theorem dL_law__336 : D mL_law_ 336 (.ireturn) 1 337 := ⟨by decide +kernel, rfl⟩
set_option maxRecDepth 100000 in
theorem dL_law__337 : D mL_law_ 337 (.aload_n 1) 1 338 := ⟨by decide +kernel, rfl⟩
set_option maxRecDepth 100000 in
theorem dL_law__338 : D mL_law_ 338 (.aload_n 0) 1 339 := ⟨by decide +kernel, rfl⟩
set_option maxRecDepth 100000 in
theorem dL_law__339 : D mL_law_ 339 (.iload 4) 2 341 := ⟨by decide +kernel, rfl⟩
set_option maxRecDepth 100000 in
theorem dL_law__341 : D mL_law_ 341 (.iconst 1) 1 342 := ⟨by decide +kernel, rfl⟩
set_option maxRecDepth 100000 in
theorem dL_law__342 : D mL_law_ 342 (.iadd) 1 343 := ⟨by decide +kernel, rfl⟩
set_option maxRecDepth 100000 in
theorem dL_law__343 : D mL_law_ 343 (.iaload) 1 344 := ⟨by decide +kernel, rfl⟩
set_option maxRecDepth 100000 in
theorem dL_law__344 : D mL_law_ 344 (.invokevirtual 136) 3 347 := ⟨by decide +kernel, rfl⟩
set_option maxRecDepth 100000 in
theorem dL_law__347 : D mL_law_ 347 (.aload_n 2) 1 348 := ⟨by decide +kernel, rfl⟩
set_option maxRecDepth 100000 in
theorem dL_law__348 : D mL_law_ 348 (.aload_n 0) 1 349 := ⟨by decide +kernel, rfl⟩
set_option maxRecDepth 100000 in
theorem dL_law__349 : D mL_law_ 349 (.iload 4) 2 351 := ⟨by decide +kernel, rfl⟩
set_option maxRecDepth 100000 in
theorem dL_law__351 : D mL_law_ 351 (.iconst 1) 1 352 := ⟨by decide +kernel, rfl⟩
set_option maxRecDepth 100000 in
theorem dL_law__352 : D mL_law_ 352 (.iadd) 1 353 := ⟨by decide +kernel, rfl⟩
set_option maxRecDepth 100000 in
theorem dL_law__353 : D mL_law_ 353 (.iaload) 1 354 := ⟨by decide +kernel, rfl⟩
set_option maxRecDepth 100000 in
theorem dL_law__354 : D mL_law_ 354 (.invokevirtual 139) 3 357 := ⟨by decide +kernel, rfl⟩
set_option maxRecDepth 100000 in
theorem dL_law__357 : DI mL_law_ 357 (Instr.if_icmp .eq) 360 2859 := ⟨2502, by decide +kernel, rfl, rfl⟩
set_option maxRecDepth 100000 in
theorem dL_law__360 : D mL_law_ 360 (.iconst 0) 1 361 := ⟨by decide +kernel, rfl⟩
set_option maxRecDepth 100000 in
theorem dL_law__361 : D mL_law_ 361 (.ireturn) 1 362 := ⟨by decide +kernel, rfl⟩
set_option maxRecDepth 100000 in
theorem dL_law__362 : D mL_law_ 362 (.aload_n 1) 1 363 := ⟨by decide +kernel, rfl⟩
set_option maxRecDepth 100000 in
theorem dL_law__363 : D mL_law_ 363 (.aload_n 3) 1 364 := ⟨by decide +kernel, rfl⟩
set_option maxRecDepth 100000 in
theorem dL_law__364 : D mL_law_ 364 (.invokestatic 140) 3 367 := ⟨by decide +kernel, rfl⟩
set_option maxRecDepth 100000 in
theorem dL_law__367 : D mL_law_ 367 (.istore 5) 2 369 := ⟨by decide +kernel, rfl⟩
set_option maxRecDepth 100000 in
theorem dL_law__369 : D mL_law_ 369 (.aload_n 2) 1 370 := ⟨by decide +kernel, rfl⟩
set_option maxRecDepth 100000 in
theorem dL_law__370 : D mL_law_ 370 (.invokevirtual 145) 3 373 := ⟨by decide +kernel, rfl⟩
set_option maxRecDepth 100000 in
theorem dL_law__373 : D mL_law_ 373 (.istore 6) 2 375 := ⟨by decide +kernel, rfl⟩
set_option maxRecDepth 100000 in
theorem dL_law__375 : D mL_law_ 375 (.aload_n 2) 1 376 := ⟨by decide +kernel, rfl⟩
set_option maxRecDepth 100000 in
theorem dL_law__376 : D mL_law_ 376 (.invokevirtual 146) 3 379 := ⟨by decide +kernel, rfl⟩
set_option maxRecDepth 100000 in
theorem dL_law__379 : D mL_law_ 379 (.iload 5) 2 381 := ⟨by decide +kernel, rfl⟩
set_option maxRecDepth 100000 in
theorem dL_law__381 : DI mL_law_ 381 (Instr.if_icmp .eq) 384 386 := ⟨5, by decide +kernel, rfl, rfl⟩
set_option maxRecDepth 100000 in
theorem dL_law__384 : D mL_law_ 384 (.iconst 0) 1 385 := ⟨by decide +kernel, rfl⟩
set_option maxRecDepth 100000 in
theorem dL_law__385 : D mL_law_ 385 (.ireturn) 1 386 := ⟨by decide +kernel, rfl⟩
set_option maxRecDepth 100000 in
theorem dL_law__386 : D mL_law_ 386 (.iload 5) 2 388 := ⟨by decide +kernel, rfl⟩
set_option maxRecDepth 100000 in
theorem dL_law__388 : DI mL_law_ 388 (Instr.ifCond .ne) 391 403 := ⟨15, by decide +kernel, rfl, rfl⟩
set_option maxRecDepth 100000 in
theorem dL_law__391 : D mL_law_ 391 (.aload_n 3) 1 392 := ⟨by decide +kernel, rfl⟩
set_option maxRecDepth 100000 in
theorem dL_law__392 : D mL_law_ 392 (.iconst 0) 1 393 := ⟨by decide +kernel, rfl⟩
set_option maxRecDepth 100000 in
theorem dL_law__393 : D mL_law_ 393 (.laload) 1 394 := ⟨by decide +kernel, rfl⟩
set_option maxRecDepth 100000 in
theorem dL_law__394 : D mL_law_ 394 (.iload 6) 2 396 := ⟨by decide +kernel, rfl⟩
set_option maxRecDepth 100000 in
theorem dL_law__396 : D mL_law_ 396 (.i2l) 1 397 := ⟨by decide +kernel, rfl⟩
set_option maxRecDepth 100000 in
theorem dL_law__397 : D mL_law_ 397 (.lcmp) 1 398 := ⟨by decide +kernel, rfl⟩
set_option maxRecDepth 100000 in
theorem dL_law__398 : DI mL_law_ 398 (Instr.ifCond .eq) 401 403 := ⟨5, by decide +kernel, rfl, rfl⟩
set_option maxRecDepth 100000 in
theorem dL_law__401 : D mL_law_ 401 (.iconst 0) 1 402 := ⟨by decide +kernel, rfl⟩
set_option maxRecDepth 100000 in
theorem dL_law__402 : D mL_law_ 402 (.ireturn) 1 403 := ⟨by decide +kernel, rfl⟩
set_option maxRecDepth 100000 in
theorem dL_law__403 : DI mL_law_ 403 Instr.goto 406 2859 := ⟨2456, by decide +kernel, rfl, rfl⟩
set_option maxRecDepth 100000 in
theorem dL_law__406 : D mL_law_ 406 (.aload_n 1) 1 407 := ⟨by decide +kernel, rfl⟩
set_option maxRecDepth 100000 in
theorem dL_law__407 : D mL_law_ 407 (.aload_n 3) 1 408 := ⟨by decide +kernel, rfl⟩
set_option maxRecDepth 100000 in
theorem dL_law__408 : D mL_law_ 408 (.invokestatic 149) 3 411 := ⟨by decide +kernel, rfl⟩
set_option maxRecDepth 100000 in
theorem dL_law__411 : D mL_law_ 411 (.istore 5) 2 413 := ⟨by decide +kernel, rfl⟩
set_option maxRecDepth 100000 in
theorem dL_law__413 : D mL_law_ 413 (.aload_n 2) 1 414 := ⟨by decide +kernel, rfl⟩
set_option maxRecDepth 100000 in
theorem dL_law__414 : D mL_law_ 414 (.invokevirtual 151) 3 417 := ⟨by decide +kernel, rfl⟩
set_option maxRecDepth 100000 in
theorem dL_law__417 : D mL_law_ 417 (.istore 6) 2 419 := ⟨by decide +kernel, rfl⟩
set_option maxRecDepth 100000 in
theorem dL_law__419 : D mL_law_ 419 (.aload_n 2) 1 420 := ⟨by decide +kernel, rfl⟩
set_option maxRecDepth 100000 in
theorem dL_law__420 : D mL_law_ 420 (.invokevirtual 146) 3 423 := ⟨by decide +kernel, rfl⟩
set_option maxRecDepth 100000 in
theorem dL_law__423 : D mL_law_ 423 (.iload 5) 2 425 := ⟨by decide +kernel, rfl⟩
set_option maxRecDepth 100000 in
theorem dL_law__425 : DI mL_law_ 425 (Instr.if_icmp .eq) 428 430 := ⟨5, by decide +kernel, rfl, rfl⟩
set_option maxRecDepth 100000 in
theorem dL_law__428 : D mL_law_ 428 (.iconst 0) 1 429 := ⟨by decide +kernel, rfl⟩
set_option maxRecDepth 100000 in
theorem dL_law__429 : D mL_law_ 429 (.ireturn) 1 430 := ⟨by decide +kernel, rfl⟩
set_option maxRecDepth 100000 in
theorem dL_law__430 : D mL_law_ 430 (.iload 5) 2 432 := ⟨by decide +kernel, rfl⟩
set_option maxRecDepth 100000 in
theorem dL_law__432 : DI mL_law_ 432 (Instr.ifCond .ne) 435 447 := ⟨15, by decide +kernel, rfl, rfl⟩
set_option maxRecDepth 100000 in
theorem dL_law__435 : D mL_law_ 435 (.aload_n 3) 1 436 := ⟨by decide +kernel, rfl⟩
set_option maxRecDepth 100000 in
theorem dL_law__436 : D mL_law_ 436 (.iconst 0) 1 437 := ⟨by decide +kernel, rfl⟩
set_option maxRecDepth 100000 in
theorem dL_law__437 : D mL_law_ 437 (.laload) 1 438 := ⟨by decide +kernel, rfl⟩
set_option maxRecDepth 100000 in
theorem dL_law__438 : D mL_law_ 438 (.iload 6) 2 440 := ⟨by decide +kernel, rfl⟩
set_option maxRecDepth 100000 in
theorem dL_law__440 : D mL_law_ 440 (.i2l) 1 441 := ⟨by decide +kernel, rfl⟩
set_option maxRecDepth 100000 in
theorem dL_law__441 : D mL_law_ 441 (.lcmp) 1 442 := ⟨by decide +kernel, rfl⟩
set_option maxRecDepth 100000 in
theorem dL_law__442 : DI mL_law_ 442 (Instr.ifCond .eq) 445 447 := ⟨5, by decide +kernel, rfl, rfl⟩
set_option maxRecDepth 100000 in
theorem dL_law__445 : D mL_law_ 445 (.iconst 0) 1 446 := ⟨by decide +kernel, rfl⟩
set_option maxRecDepth 100000 in
theorem dL_law__446 : D mL_law_ 446 (.ireturn) 1 447 := ⟨by decide +kernel, rfl⟩
set_option maxRecDepth 100000 in
theorem dL_law__447 : DI mL_law_ 447 Instr.goto 450 2859 := ⟨2412, by decide +kernel, rfl, rfl⟩
set_option maxRecDepth 100000 in
theorem dL_law__450 : D mL_law_ 450 (.aload_n 1) 1 451 := ⟨by decide +kernel, rfl⟩
set_option maxRecDepth 100000 in
theorem dL_law__451 : D mL_law_ 451 (.invokevirtual 152) 3 454 := ⟨by decide +kernel, rfl⟩
set_option maxRecDepth 100000 in
theorem dL_law__454 : D mL_law_ 454 (.aload_n 2) 1 455 := ⟨by decide +kernel, rfl⟩
set_option maxRecDepth 100000 in
theorem dL_law__455 : D mL_law_ 455 (.invokevirtual 155) 3 458 := ⟨by decide +kernel, rfl⟩
set_option maxRecDepth 100000 in
theorem dL_law__458 : DI mL_law_ 458 (Instr.if_icmp .eq) 461 2859 := ⟨2401, by decide +kernel, rfl, rfl⟩
set_option maxRecDepth 100000 in
theorem dL_law__461 : D mL_law_ 461 (.iconst 0) 1 462 := ⟨by decide +kernel, rfl⟩
set_option maxRecDepth 100000 in
theorem dL_law__462 : D mL_law_ 462 (.ireturn) 1 463 := ⟨by decide +kernel, rfl⟩
set_option maxRecDepth 100000 in
theorem dL_law__463 : D mL_law_ 463 (.aload_n 1) 1 464 := ⟨by decide +kernel, rfl⟩
set_option maxRecDepth 100000 in
theorem dL_law__464 : D mL_law_ 464 (.aload_n 0) 1 465 := ⟨by decide +kernel, rfl⟩
set_option maxRecDepth 100000 in
theorem dL_law__465 : D mL_law_ 465 (.iload 4) 2 467 := ⟨by decide +kernel, rfl⟩
set_option maxRecDepth 100000 in
theorem dL_law__467 : D mL_law_ 467 (.iconst 1) 1 468 := ⟨by decide +kernel, rfl⟩
set_option maxRecDepth 100000 in
theorem dL_law__468 : D mL_law_ 468 (.iadd) 1 469 := ⟨by decide +kernel, rfl⟩
set_option maxRecDepth 100000 in
theorem dL_law__469 : D mL_law_ 469 (.iaload) 1 470 := ⟨by decide +kernel, rfl⟩
set_option maxRecDepth 100000 in
theorem dL_law__470 : D mL_law_ 470 (.aload_n 0) 1 471 := ⟨by decide +kernel, rfl⟩
set_option maxRecDepth 100000 in
theorem dL_law__471 : D mL_law_ 471 (.iload 4) 2 473 := ⟨by decide +kernel, rfl⟩
set_option maxRecDepth 100000 in
theorem dL_law__473 : D mL_law_ 473 (.iconst 2) 1 474 := ⟨by decide +kernel, rfl⟩
set_option maxRecDepth 100000 in
theorem dL_law__474 : D mL_law_ 474 (.iadd) 1 475 := ⟨by decide +kernel, rfl⟩
set_option maxRecDepth 100000 in
theorem dL_law__475 : D mL_law_ 475 (.iaload) 1 476 := ⟨by decide +kernel, rfl⟩
set_option maxRecDepth 100000 in
theorem dL_law__476 : D mL_law_ 476 (.aload_n 3) 1 477 := ⟨by decide +kernel, rfl⟩
set_option maxRecDepth 100000 in
theorem dL_law__477 : D mL_law_ 477 (.invokestatic 156) 3 480 := ⟨by decide +kernel, rfl⟩
set_option maxRecDepth 100000 in
theorem dL_law__480 : D mL_law_ 480 (.istore 5) 2 482 := ⟨by decide +kernel, rfl⟩
set_option maxRecDepth 100000 in
theorem dL_law__482 : D mL_law_ 482 (.aload_n 2) 1 483 := ⟨by decide +kernel, rfl⟩
set_option maxRecDepth 100000 in
theorem dL_law__483 : D mL_law_ 483 (.aload_n 0) 1 484 := ⟨by decide +kernel, rfl⟩
set_option maxRecDepth 100000 in
theorem dL_law__484 : D mL_law_ 484 (.iload 4) 2 486 := ⟨by decide +kernel, rfl⟩
set_option maxRecDepth 100000 in
theorem dL_law__486 : D mL_law_ 486 (.iconst 1) 1 487 := ⟨by decide +kernel, rfl⟩
set_option maxRecDepth 100000 in
theorem dL_law__487 : D mL_law_ 487 (.iadd) 1 488 := ⟨by decide +kernel, rfl⟩
set_option maxRecDepth 100000 in
theorem dL_law__488 : D mL_law_ 488 (.iaload) 1 489 := ⟨by decide +kernel, rfl⟩
set_option maxRecDepth 100000 in
theorem dL_law__489 : D mL_law_ 489 (.aload_n 0) 1 490 := ⟨by decide +kernel, rfl⟩
set_option maxRecDepth 100000 in
theorem dL_law__490 : D mL_law_ 490 (.iload 4) 2 492 := ⟨by decide +kernel, rfl⟩
set_option maxRecDepth 100000 in
theorem dL_law__492 : D mL_law_ 492 (.iconst 2) 1 493 := ⟨by decide +kernel, rfl⟩
set_option maxRecDepth 100000 in
theorem dL_law__493 : D mL_law_ 493 (.iadd) 1 494 := ⟨by decide +kernel, rfl⟩
set_option maxRecDepth 100000 in
theorem dL_law__494 : D mL_law_ 494 (.iaload) 1 495 := ⟨by decide +kernel, rfl⟩
set_option maxRecDepth 100000 in
theorem dL_law__495 : D mL_law_ 495 (.invokevirtual 159) 3 498 := ⟨by decide +kernel, rfl⟩
set_option maxRecDepth 100000 in
theorem dL_law__498 : D mL_law_ 498 (.istore 6) 2 500 := ⟨by decide +kernel, rfl⟩
set_option maxRecDepth 100000 in
theorem dL_law__500 : D mL_law_ 500 (.aload_n 2) 1 501 := ⟨by decide +kernel, rfl⟩
set_option maxRecDepth 100000 in
theorem dL_law__501 : D mL_law_ 501 (.invokevirtual 146) 3 504 := ⟨by decide +kernel, rfl⟩
set_option maxRecDepth 100000 in
theorem dL_law__504 : D mL_law_ 504 (.iload 5) 2 506 := ⟨by decide +kernel, rfl⟩
set_option maxRecDepth 100000 in
theorem dL_law__506 : DI mL_law_ 506 (Instr.if_icmp .eq) 509 511 := ⟨5, by decide +kernel, rfl, rfl⟩
set_option maxRecDepth 100000 in
theorem dL_law__509 : D mL_law_ 509 (.iconst 0) 1 510 := ⟨by decide +kernel, rfl⟩
set_option maxRecDepth 100000 in
theorem dL_law__510 : D mL_law_ 510 (.ireturn) 1 511 := ⟨by decide +kernel, rfl⟩
set_option maxRecDepth 100000 in
theorem dL_law__511 : D mL_law_ 511 (.iload 5) 2 513 := ⟨by decide +kernel, rfl⟩
set_option maxRecDepth 100000 in
theorem dL_law__513 : DI mL_law_ 513 (Instr.ifCond .ne) 516 528 := ⟨15, by decide +kernel, rfl, rfl⟩
set_option maxRecDepth 100000 in
theorem dL_law__516 : D mL_law_ 516 (.aload_n 3) 1 517 := ⟨by decide +kernel, rfl⟩
set_option maxRecDepth 100000 in
theorem dL_law__517 : D mL_law_ 517 (.iconst 0) 1 518 := ⟨by decide +kernel, rfl⟩
set_option maxRecDepth 100000 in
theorem dL_law__518 : D mL_law_ 518 (.laload) 1 519 := ⟨by decide +kernel, rfl⟩
set_option maxRecDepth 100000 in
theorem dL_law__519 : D mL_law_ 519 (.iload 6) 2 521 := ⟨by decide +kernel, rfl⟩
set_option maxRecDepth 100000 in
theorem dL_law__521 : D mL_law_ 521 (.i2l) 1 522 := ⟨by decide +kernel, rfl⟩
set_option maxRecDepth 100000 in
theorem dL_law__522 : D mL_law_ 522 (.lcmp) 1 523 := ⟨by decide +kernel, rfl⟩
set_option maxRecDepth 100000 in
theorem dL_law__523 : DI mL_law_ 523 (Instr.ifCond .eq) 526 528 := ⟨5, by decide +kernel, rfl, rfl⟩
set_option maxRecDepth 100000 in
theorem dL_law__526 : D mL_law_ 526 (.iconst 0) 1 527 := ⟨by decide +kernel, rfl⟩
set_option maxRecDepth 100000 in
theorem dL_law__527 : D mL_law_ 527 (.ireturn) 1 528 := ⟨by decide +kernel, rfl⟩
set_option maxRecDepth 100000 in
theorem dL_law__528 : DI mL_law_ 528 Instr.goto 531 2859 := ⟨2331, by decide +kernel, rfl, rfl⟩
set_option maxRecDepth 100000 in
theorem dL_law__531 : D mL_law_ 531 (.aload_n 1) 1 532 := ⟨by decide +kernel, rfl⟩
set_option maxRecDepth 100000 in
theorem dL_law__532 : D mL_law_ 532 (.aload_n 0) 1 533 := ⟨by decide +kernel, rfl⟩
set_option maxRecDepth 100000 in
theorem dL_law__533 : D mL_law_ 533 (.iload 4) 2 535 := ⟨by decide +kernel, rfl⟩
set_option maxRecDepth 100000 in
theorem dL_law__535 : D mL_law_ 535 (.iconst 1) 1 536 := ⟨by decide +kernel, rfl⟩
set_option maxRecDepth 100000 in
theorem dL_law__536 : D mL_law_ 536 (.iadd) 1 537 := ⟨by decide +kernel, rfl⟩
set_option maxRecDepth 100000 in
theorem dL_law__537 : D mL_law_ 537 (.iaload) 1 538 := ⟨by decide +kernel, rfl⟩
set_option maxRecDepth 100000 in
theorem dL_law__538 : D mL_law_ 538 (.aload_n 0) 1 539 := ⟨by decide +kernel, rfl⟩
set_option maxRecDepth 100000 in
theorem dL_law__539 : D mL_law_ 539 (.iload 4) 2 541 := ⟨by decide +kernel, rfl⟩
set_option maxRecDepth 100000 in
theorem dL_law__541 : D mL_law_ 541 (.iconst 2) 1 542 := ⟨by decide +kernel, rfl⟩
set_option maxRecDepth 100000 in
theorem dL_law__542 : D mL_law_ 542 (.iadd) 1 543 := ⟨by decide +kernel, rfl⟩
set_option maxRecDepth 100000 in
theorem dL_law__543 : D mL_law_ 543 (.iaload) 1 544 := ⟨by decide +kernel, rfl⟩
set_option maxRecDepth 100000 in
theorem dL_law__544 : D mL_law_ 544 (.aload_n 3) 1 545 := ⟨by decide +kernel, rfl⟩
set_option maxRecDepth 100000 in
theorem dL_law__545 : D mL_law_ 545 (.invokestatic 160) 3 548 := ⟨by decide +kernel, rfl⟩
set_option maxRecDepth 100000 in
theorem dL_law__548 : D mL_law_ 548 (.istore 5) 2 550 := ⟨by decide +kernel, rfl⟩
set_option maxRecDepth 100000 in
theorem dL_law__550 : D mL_law_ 550 (.aload_n 2) 1 551 := ⟨by decide +kernel, rfl⟩
set_option maxRecDepth 100000 in
theorem dL_law__551 : D mL_law_ 551 (.aload_n 0) 1 552 := ⟨by decide +kernel, rfl⟩
set_option maxRecDepth 100000 in
theorem dL_law__552 : D mL_law_ 552 (.iload 4) 2 554 := ⟨by decide +kernel, rfl⟩
set_option maxRecDepth 100000 in
theorem dL_law__554 : D mL_law_ 554 (.iconst 1) 1 555 := ⟨by decide +kernel, rfl⟩
set_option maxRecDepth 100000 in
theorem dL_law__555 : D mL_law_ 555 (.iadd) 1 556 := ⟨by decide +kernel, rfl⟩
set_option maxRecDepth 100000 in
theorem dL_law__556 : D mL_law_ 556 (.iaload) 1 557 := ⟨by decide +kernel, rfl⟩
set_option maxRecDepth 100000 in
theorem dL_law__557 : D mL_law_ 557 (.aload_n 0) 1 558 := ⟨by decide +kernel, rfl⟩
set_option maxRecDepth 100000 in
theorem dL_law__558 : D mL_law_ 558 (.iload 4) 2 560 := ⟨by decide +kernel, rfl⟩
set_option maxRecDepth 100000 in
theorem dL_law__560 : D mL_law_ 560 (.iconst 2) 1 561 := ⟨by decide +kernel, rfl⟩
set_option maxRecDepth 100000 in
theorem dL_law__561 : D mL_law_ 561 (.iadd) 1 562 := ⟨by decide +kernel, rfl⟩
set_option maxRecDepth 100000 in
theorem dL_law__562 : D mL_law_ 562 (.iaload) 1 563 := ⟨by decide +kernel, rfl⟩
set_option maxRecDepth 100000 in
theorem dL_law__563 : D mL_law_ 563 (.invokevirtual 162) 3 566 := ⟨by decide +kernel, rfl⟩
set_option maxRecDepth 100000 in
theorem dL_law__566 : D mL_law_ 566 (.istore 6) 2 568 := ⟨by decide +kernel, rfl⟩
set_option maxRecDepth 100000 in
theorem dL_law__568 : D mL_law_ 568 (.aload_n 2) 1 569 := ⟨by decide +kernel, rfl⟩
set_option maxRecDepth 100000 in
theorem dL_law__569 : D mL_law_ 569 (.invokevirtual 146) 3 572 := ⟨by decide +kernel, rfl⟩
set_option maxRecDepth 100000 in
theorem dL_law__572 : D mL_law_ 572 (.iload 5) 2 574 := ⟨by decide +kernel, rfl⟩
set_option maxRecDepth 100000 in
theorem dL_law__574 : DI mL_law_ 574 (Instr.if_icmp .eq) 577 579 := ⟨5, by decide +kernel, rfl, rfl⟩
set_option maxRecDepth 100000 in
theorem dL_law__577 : D mL_law_ 577 (.iconst 0) 1 578 := ⟨by decide +kernel, rfl⟩
set_option maxRecDepth 100000 in
theorem dL_law__578 : D mL_law_ 578 (.ireturn) 1 579 := ⟨by decide +kernel, rfl⟩
set_option maxRecDepth 100000 in
theorem dL_law__579 : D mL_law_ 579 (.iload 5) 2 581 := ⟨by decide +kernel, rfl⟩
set_option maxRecDepth 100000 in
theorem dL_law__581 : DI mL_law_ 581 (Instr.ifCond .ne) 584 596 := ⟨15, by decide +kernel, rfl, rfl⟩
set_option maxRecDepth 100000 in
theorem dL_law__584 : D mL_law_ 584 (.aload_n 3) 1 585 := ⟨by decide +kernel, rfl⟩
set_option maxRecDepth 100000 in
theorem dL_law__585 : D mL_law_ 585 (.iconst 0) 1 586 := ⟨by decide +kernel, rfl⟩
set_option maxRecDepth 100000 in
theorem dL_law__586 : D mL_law_ 586 (.laload) 1 587 := ⟨by decide +kernel, rfl⟩
set_option maxRecDepth 100000 in
theorem dL_law__587 : D mL_law_ 587 (.iload 6) 2 589 := ⟨by decide +kernel, rfl⟩
set_option maxRecDepth 100000 in
theorem dL_law__589 : D mL_law_ 589 (.i2l) 1 590 := ⟨by decide +kernel, rfl⟩
set_option maxRecDepth 100000 in
theorem dL_law__590 : D mL_law_ 590 (.lcmp) 1 591 := ⟨by decide +kernel, rfl⟩
set_option maxRecDepth 100000 in
theorem dL_law__591 : DI mL_law_ 591 (Instr.ifCond .eq) 594 596 := ⟨5, by decide +kernel, rfl, rfl⟩
set_option maxRecDepth 100000 in
theorem dL_law__594 : D mL_law_ 594 (.iconst 0) 1 595 := ⟨by decide +kernel, rfl⟩
set_option maxRecDepth 100000 in
theorem dL_law__595 : D mL_law_ 595 (.ireturn) 1 596 := ⟨by decide +kernel, rfl⟩
set_option maxRecDepth 100000 in
theorem dL_law__596 : DI mL_law_ 596 Instr.goto 599 2859 := ⟨2263, by decide +kernel, rfl, rfl⟩
set_option maxRecDepth 100000 in
theorem dL_law__599 : D mL_law_ 599 (.aload_n 1) 1 600 := ⟨by decide +kernel, rfl⟩
set_option maxRecDepth 100000 in
theorem dL_law__600 : D mL_law_ 600 (.aload_n 0) 1 601 := ⟨by decide +kernel, rfl⟩
set_option maxRecDepth 100000 in
theorem dL_law__601 : D mL_law_ 601 (.iload 4) 2 603 := ⟨by decide +kernel, rfl⟩
set_option maxRecDepth 100000 in
theorem dL_law__603 : D mL_law_ 603 (.iconst 1) 1 604 := ⟨by decide +kernel, rfl⟩
set_option maxRecDepth 100000 in
theorem dL_law__604 : D mL_law_ 604 (.iadd) 1 605 := ⟨by decide +kernel, rfl⟩
set_option maxRecDepth 100000 in
theorem dL_law__605 : D mL_law_ 605 (.iaload) 1 606 := ⟨by decide +kernel, rfl⟩
set_option maxRecDepth 100000 in
theorem dL_law__606 : D mL_law_ 606 (.aload_n 0) 1 607 := ⟨by decide +kernel, rfl⟩
set_option maxRecDepth 100000 in
theorem dL_law__607 : D mL_law_ 607 (.iload 4) 2 609 := ⟨by decide +kernel, rfl⟩
set_option maxRecDepth 100000 in
theorem dL_law__609 : D mL_law_ 609 (.iconst 2) 1 610 := ⟨by decide +kernel, rfl⟩
set_option maxRecDepth 100000 in
theorem dL_law__610 : D mL_law_ 610 (.iadd) 1 611 := ⟨by decide +kernel, rfl⟩
set_option maxRecDepth 100000 in
theorem dL_law__611 : D mL_law_ 611 (.iaload) 1 612 := ⟨by decide +kernel, rfl⟩
set_option maxRecDepth 100000 in
theorem dL_law__612 : D mL_law_ 612 (.aload_n 3) 1 613 := ⟨by decide +kernel, rfl⟩
set_option maxRecDepth 100000 in
theorem dL_law__613 : D mL_law_ 613 (.invokestatic 163) 3 616 := ⟨by decide +kernel, rfl⟩
set_option maxRecDepth 100000 in
theorem dL_law__616 : D mL_law_ 616 (.istore 5) 2 618 := ⟨by decide +kernel, rfl⟩
set_option maxRecDepth 100000 in
theorem dL_law__618 : D mL_law_ 618 (.aload_n 2) 1 619 := ⟨by decide +kernel, rfl⟩
set_option maxRecDepth 100000 in
theorem dL_law__619 : D mL_law_ 619 (.aload_n 0) 1 620 := ⟨by decide +kernel, rfl⟩
set_option maxRecDepth 100000 in
theorem dL_law__620 : D mL_law_ 620 (.iload 4) 2 622 := ⟨by decide +kernel, rfl⟩
set_option maxRecDepth 100000 in
theorem dL_law__622 : D mL_law_ 622 (.iconst 1) 1 623 := ⟨by decide +kernel, rfl⟩
set_option maxRecDepth 100000 in
theorem dL_law__623 : D mL_law_ 623 (.iadd) 1 624 := ⟨by decide +kernel, rfl⟩
set_option maxRecDepth 100000 in
theorem dL_law__624 : D mL_law_ 624 (.iaload) 1 625 := ⟨by decide +kernel, rfl⟩
set_option maxRecDepth 100000 in
theorem dL_law__625 : D mL_law_ 625 (.aload_n 0) 1 626 := ⟨by decide +kernel, rfl⟩
set_option maxRecDepth 100000 in
theorem dL_law__626 : D mL_law_ 626 (.iload 4) 2 628 := ⟨by decide +kernel, rfl⟩
set_option maxRecDepth 100000 in
theorem dL_law__628 : D mL_law_ 628 (.iconst 2) 1 629 := ⟨by decide +kernel, rfl⟩
set_option maxRecDepth 100000 in
theorem dL_law__629 : D mL_law_ 629 (.iadd) 1 630 := ⟨by decide +kernel, rfl⟩
set_option maxRecDepth 100000 in
theorem dL_law__630 : D mL_law_ 630 (.iaload) 1 631 := ⟨by decide +kernel, rfl⟩
set_option maxRecDepth 100000 in
theorem dL_law__631 : D mL_law_ 631 (.invokevirtual 165) 3 634 := ⟨by decide +kernel, rfl⟩
set_option maxRecDepth 100000 in
theorem dL_law__634 : D mL_law_ 634 (.istore 6) 2 636 := ⟨by decide +kernel, rfl⟩
set_option maxRecDepth 100000 in
theorem dL_law__636 : D mL_law_ 636 (.aload_n 2) 1 637 := ⟨by decide +kernel, rfl⟩
set_option maxRecDepth 100000 in
theorem dL_law__637 : D mL_law_ 637 (.invokevirtual 146) 3 640 := ⟨by decide +kernel, rfl⟩
set_option maxRecDepth 100000 in
theorem dL_law__640 : D mL_law_ 640 (.iload 5) 2 642 := ⟨by decide +kernel, rfl⟩
set_option maxRecDepth 100000 in
theorem dL_law__642 : DI mL_law_ 642 (Instr.if_icmp .eq) 645 647 := ⟨5, by decide +kernel, rfl, rfl⟩
set_option maxRecDepth 100000 in
theorem dL_law__645 : D mL_law_ 645 (.iconst 0) 1 646 := ⟨by decide +kernel, rfl⟩
set_option maxRecDepth 100000 in
theorem dL_law__646 : D mL_law_ 646 (.ireturn) 1 647 := ⟨by decide +kernel, rfl⟩
set_option maxRecDepth 100000 in
theorem dL_law__647 : D mL_law_ 647 (.iload 5) 2 649 := ⟨by decide +kernel, rfl⟩
set_option maxRecDepth 100000 in
theorem dL_law__649 : DI mL_law_ 649 (Instr.ifCond .ne) 652 664 := ⟨15, by decide +kernel, rfl, rfl⟩
set_option maxRecDepth 100000 in
theorem dL_law__652 : D mL_law_ 652 (.aload_n 3) 1 653 := ⟨by decide +kernel, rfl⟩
set_option maxRecDepth 100000 in
theorem dL_law__653 : D mL_law_ 653 (.iconst 0) 1 654 := ⟨by decide +kernel, rfl⟩
set_option maxRecDepth 100000 in
theorem dL_law__654 : D mL_law_ 654 (.laload) 1 655 := ⟨by decide +kernel, rfl⟩
set_option maxRecDepth 100000 in
theorem dL_law__655 : D mL_law_ 655 (.iload 6) 2 657 := ⟨by decide +kernel, rfl⟩
set_option maxRecDepth 100000 in
theorem dL_law__657 : D mL_law_ 657 (.i2l) 1 658 := ⟨by decide +kernel, rfl⟩
set_option maxRecDepth 100000 in
theorem dL_law__658 : D mL_law_ 658 (.lcmp) 1 659 := ⟨by decide +kernel, rfl⟩
set_option maxRecDepth 100000 in
theorem dL_law__659 : DI mL_law_ 659 (Instr.ifCond .eq) 662 664 := ⟨5, by decide +kernel, rfl, rfl⟩
set_option maxRecDepth 100000 in
theorem dL_law__662 : D mL_law_ 662 (.iconst 0) 1 663 := ⟨by decide +kernel, rfl⟩
set_option maxRecDepth 100000 in
theorem dL_law__663 : D mL_law_ 663 (.ireturn) 1 664 := ⟨by decide +kernel, rfl⟩
set_option maxRecDepth 100000 in
theorem dL_law__664 : DI mL_law_ 664 Instr.goto 667 2859 := ⟨2195, by decide +kernel, rfl, rfl⟩
set_option maxRecDepth 100000 in
theorem dL_law__667 : D mL_law_ 667 (.aload_n 1) 1 668 := ⟨by decide +kernel, rfl⟩
set_option maxRecDepth 100000 in
theorem dL_law__668 : D mL_law_ 668 (.aload_n 0) 1 669 := ⟨by decide +kernel, rfl⟩
set_option maxRecDepth 100000 in
theorem dL_law__669 : D mL_law_ 669 (.iload 4) 2 671 := ⟨by decide +kernel, rfl⟩
set_option maxRecDepth 100000 in
theorem dL_law__671 : D mL_law_ 671 (.iconst 1) 1 672 := ⟨by decide +kernel, rfl⟩
set_option maxRecDepth 100000 in
theorem dL_law__672 : D mL_law_ 672 (.iadd) 1 673 := ⟨by decide +kernel, rfl⟩
set_option maxRecDepth 100000 in
theorem dL_law__673 : D mL_law_ 673 (.iaload) 1 674 := ⟨by decide +kernel, rfl⟩
set_option maxRecDepth 100000 in
theorem dL_law__674 : D mL_law_ 674 (.aload_n 3) 1 675 := ⟨by decide +kernel, rfl⟩
set_option maxRecDepth 100000 in
theorem dL_law__675 : D mL_law_ 675 (.invokestatic 166) 3 678 := ⟨by decide +kernel, rfl⟩
set_option maxRecDepth 100000 in
theorem dL_law__678 : D mL_law_ 678 (.istore 5) 2 680 := ⟨by decide +kernel, rfl⟩
set_option maxRecDepth 100000 in
theorem dL_law__680 : D mL_law_ 680 (.aload_n 2) 1 681 := ⟨by decide +kernel, rfl⟩
set_option maxRecDepth 100000 in
theorem dL_law__681 : D mL_law_ 681 (.aload_n 0) 1 682 := ⟨by decide +kernel, rfl⟩
set_option maxRecDepth 100000 in
theorem dL_law__682 : D mL_law_ 682 (.iload 4) 2 684 := ⟨by decide +kernel, rfl⟩
set_option maxRecDepth 100000 in
theorem dL_law__684 : D mL_law_ 684 (.iconst 1) 1 685 := ⟨by decide +kernel, rfl⟩
set_option maxRecDepth 100000 in
theorem dL_law__685 : D mL_law_ 685 (.iadd) 1 686 := ⟨by decide +kernel, rfl⟩
set_option maxRecDepth 100000 in
theorem dL_law__686 : D mL_law_ 686 (.iaload) 1 687 := ⟨by decide +kernel, rfl⟩
set_option maxRecDepth 100000 in
theorem dL_law__687 : D mL_law_ 687 (.invokevirtual 169) 3 690 := ⟨by decide +kernel, rfl⟩
set_option maxRecDepth 100000 in
theorem dL_law__690 : D mL_law_ 690 (.istore 6) 2 692 := ⟨by decide +kernel, rfl⟩
set_option maxRecDepth 100000 in
theorem dL_law__692 : D mL_law_ 692 (.aload_n 2) 1 693 := ⟨by decide +kernel, rfl⟩
set_option maxRecDepth 100000 in
theorem dL_law__693 : D mL_law_ 693 (.invokevirtual 146) 3 696 := ⟨by decide +kernel, rfl⟩
set_option maxRecDepth 100000 in
theorem dL_law__696 : D mL_law_ 696 (.iload 5) 2 698 := ⟨by decide +kernel, rfl⟩
set_option maxRecDepth 100000 in
theorem dL_law__698 : DI mL_law_ 698 (Instr.if_icmp .eq) 701 703 := ⟨5, by decide +kernel, rfl, rfl⟩
set_option maxRecDepth 100000 in
theorem dL_law__701 : D mL_law_ 701 (.iconst 0) 1 702 := ⟨by decide +kernel, rfl⟩
set_option maxRecDepth 100000 in
theorem dL_law__702 : D mL_law_ 702 (.ireturn) 1 703 := ⟨by decide +kernel, rfl⟩
set_option maxRecDepth 100000 in
theorem dL_law__703 : D mL_law_ 703 (.iload 5) 2 705 := ⟨by decide +kernel, rfl⟩
set_option maxRecDepth 100000 in
theorem dL_law__705 : DI mL_law_ 705 (Instr.ifCond .ne) 708 720 := ⟨15, by decide +kernel, rfl, rfl⟩
set_option maxRecDepth 100000 in
theorem dL_law__708 : D mL_law_ 708 (.aload_n 3) 1 709 := ⟨by decide +kernel, rfl⟩
set_option maxRecDepth 100000 in
theorem dL_law__709 : D mL_law_ 709 (.iconst 0) 1 710 := ⟨by decide +kernel, rfl⟩
set_option maxRecDepth 100000 in
theorem dL_law__710 : D mL_law_ 710 (.laload) 1 711 := ⟨by decide +kernel, rfl⟩
set_option maxRecDepth 100000 in
theorem dL_law__711 : D mL_law_ 711 (.iload 6) 2 713 := ⟨by decide +kernel, rfl⟩
set_option maxRecDepth 100000 in
theorem dL_law__713 : D mL_law_ 713 (.i2l) 1 714 := ⟨by decide +kernel, rfl⟩
set_option maxRecDepth 100000 in
theorem dL_law__714 : D mL_law_ 714 (.lcmp) 1 715 := ⟨by decide +kernel, rfl⟩
set_option maxRecDepth 100000 in
theorem dL_law__715 : DI mL_law_ 715 (Instr.ifCond .eq) 718 720 := ⟨5, by decide +kernel, rfl, rfl⟩
set_option maxRecDepth 100000 in
theorem dL_law__718 : D mL_law_ 718 (.iconst 0) 1 719 := ⟨by decide +kernel, rfl⟩
set_option maxRecDepth 100000 in
theorem dL_law__719 : D mL_law_ 719 (.ireturn) 1 720 := ⟨by decide +kernel, rfl⟩
set_option maxRecDepth 100000 in
theorem dL_law__720 : DI mL_law_ 720 Instr.goto 723 2859 := ⟨2139, by decide +kernel, rfl, rfl⟩
set_option maxRecDepth 100000 in
theorem dL_law__723 : D mL_law_ 723 (.aload_n 1) 1 724 := ⟨by decide +kernel, rfl⟩
set_option maxRecDepth 100000 in
theorem dL_law__724 : D mL_law_ 724 (.aload_n 0) 1 725 := ⟨by decide +kernel, rfl⟩
set_option maxRecDepth 100000 in
theorem dL_law__725 : D mL_law_ 725 (.iload 4) 2 727 := ⟨by decide +kernel, rfl⟩
set_option maxRecDepth 100000 in
theorem dL_law__727 : D mL_law_ 727 (.iconst 1) 1 728 := ⟨by decide +kernel, rfl⟩
set_option maxRecDepth 100000 in
theorem dL_law__728 : D mL_law_ 728 (.iadd) 1 729 := ⟨by decide +kernel, rfl⟩
set_option maxRecDepth 100000 in
theorem dL_law__729 : D mL_law_ 729 (.iaload) 1 730 := ⟨by decide +kernel, rfl⟩
set_option maxRecDepth 100000 in
theorem dL_law__730 : D mL_law_ 730 (.aload_n 0) 1 731 := ⟨by decide +kernel, rfl⟩
set_option maxRecDepth 100000 in
theorem dL_law__731 : D mL_law_ 731 (.iload 4) 2 733 := ⟨by decide +kernel, rfl⟩
set_option maxRecDepth 100000 in
theorem dL_law__733 : D mL_law_ 733 (.iconst 2) 1 734 := ⟨by decide +kernel, rfl⟩
set_option maxRecDepth 100000 in
theorem dL_law__734 : D mL_law_ 734 (.iadd) 1 735 := ⟨by decide +kernel, rfl⟩
set_option maxRecDepth 100000 in
theorem dL_law__735 : D mL_law_ 735 (.iaload) 1 736 := ⟨by decide +kernel, rfl⟩
set_option maxRecDepth 100000 in
theorem dL_law__736 : D mL_law_ 736 (.aload_n 0) 1 737 := ⟨by decide +kernel, rfl⟩
set_option maxRecDepth 100000 in
theorem dL_law__737 : D mL_law_ 737 (.iload 4) 2 739 := ⟨by decide +kernel, rfl⟩
set_option maxRecDepth 100000 in
theorem dL_law__739 : D mL_law_ 739 (.iconst 3) 1 740 := ⟨by decide +kernel, rfl⟩
set_option maxRecDepth 100000 in
theorem dL_law__740 : D mL_law_ 740 (.iadd) 1 741 := ⟨by decide +kernel, rfl⟩
set_option maxRecDepth 100000 in
theorem dL_law__741 : D mL_law_ 741 (.iaload) 1 742 := ⟨by decide +kernel, rfl⟩
set_option maxRecDepth 100000 in
theorem dL_law__742 : D mL_law_ 742 (.aload_n 3) 1 743 := ⟨by decide +kernel, rfl⟩
set_option maxRecDepth 100000 in
theorem dL_law__743 : D mL_law_ 743 (.invokestatic 170) 3 746 := ⟨by decide +kernel, rfl⟩
set_option maxRecDepth 100000 in
theorem dL_law__746 : D mL_law_ 746 (.istore 5) 2 748 := ⟨by decide +kernel, rfl⟩
set_option maxRecDepth 100000 in
theorem dL_law__748 : D mL_law_ 748 (.aload_n 2) 1 749 := ⟨by decide +kernel, rfl⟩
set_option maxRecDepth 100000 in
theorem dL_law__749 : D mL_law_ 749 (.aload_n 0) 1 750 := ⟨by decide +kernel, rfl⟩
set_option maxRecDepth 100000 in
theorem dL_law__750 : D mL_law_ 750 (.iload 4) 2 752 := ⟨by decide +kernel, rfl⟩
set_option maxRecDepth 100000 in
theorem dL_law__752 : D mL_law_ 752 (.iconst 1) 1 753 := ⟨by decide +kernel, rfl⟩
set_option maxRecDepth 100000 in
theorem dL_law__753 : D mL_law_ 753 (.iadd) 1 754 := ⟨by decide +kernel, rfl⟩
set_option maxRecDepth 100000 in
theorem dL_law__754 : D mL_law_ 754 (.iaload) 1 755 := ⟨by decide +kernel, rfl⟩
set_option maxRecDepth 100000 in
theorem dL_law__755 : D mL_law_ 755 (.aload_n 0) 1 756 := ⟨by decide +kernel, rfl⟩
set_option maxRecDepth 100000 in
theorem dL_law__756 : D mL_law_ 756 (.iload 4) 2 758 := ⟨by decide +kernel, rfl⟩
set_option maxRecDepth 100000 in
theorem dL_law__758 : D mL_law_ 758 (.iconst 2) 1 759 := ⟨by decide +kernel, rfl⟩
set_option maxRecDepth 100000 in
theorem dL_law__759 : D mL_law_ 759 (.iadd) 1 760 := ⟨by decide +kernel, rfl⟩
set_option maxRecDepth 100000 in
theorem dL_law__760 : D mL_law_ 760 (.iaload) 1 761 := ⟨by decide +kernel, rfl⟩
set_option maxRecDepth 100000 in
theorem dL_law__761 : D mL_law_ 761 (.aload_n 0) 1 762 := ⟨by decide +kernel, rfl⟩
set_option maxRecDepth 100000 in
theorem dL_law__762 : D mL_law_ 762 (.iload 4) 2 764 := ⟨by decide +kernel, rfl⟩
set_option maxRecDepth 100000 in
theorem dL_law__764 : D mL_law_ 764 (.iconst 3) 1 765 := ⟨by decide +kernel, rfl⟩
set_option maxRecDepth 100000 in
theorem dL_law__765 : D mL_law_ 765 (.iadd) 1 766 := ⟨by decide +kernel, rfl⟩
set_option maxRecDepth 100000 in
theorem dL_law__766 : D mL_law_ 766 (.iaload) 1 767 := ⟨by decide +kernel, rfl⟩
set_option maxRecDepth 100000 in
theorem dL_law__767 : D mL_law_ 767 (.invokevirtual 173) 3 770 := ⟨by decide +kernel, rfl⟩
set_option maxRecDepth 100000 in
theorem dL_law__770 : D mL_law_ 770 (.istore 6) 2 772 := ⟨by decide +kernel, rfl⟩
set_option maxRecDepth 100000 in
theorem dL_law__772 : D mL_law_ 772 (.aload_n 2) 1 773 := ⟨by decide +kernel, rfl⟩
set_option maxRecDepth 100000 in
theorem dL_law__773 : D mL_law_ 773 (.invokevirtual 146) 3 776 := ⟨by decide +kernel, rfl⟩
set_option maxRecDepth 100000 in
theorem dL_law__776 : D mL_law_ 776 (.iload 5) 2 778 := ⟨by decide +kernel, rfl⟩
set_option maxRecDepth 100000 in
theorem dL_law__778 : DI mL_law_ 778 (Instr.if_icmp .eq) 781 783 := ⟨5, by decide +kernel, rfl, rfl⟩
set_option maxRecDepth 100000 in
theorem dL_law__781 : D mL_law_ 781 (.iconst 0) 1 782 := ⟨by decide +kernel, rfl⟩
set_option maxRecDepth 100000 in
theorem dL_law__782 : D mL_law_ 782 (.ireturn) 1 783 := ⟨by decide +kernel, rfl⟩
set_option maxRecDepth 100000 in
theorem dL_law__783 : D mL_law_ 783 (.iload 5) 2 785 := ⟨by decide +kernel, rfl⟩
set_option maxRecDepth 100000 in
theorem dL_law__785 : DI mL_law_ 785 (Instr.ifCond .ne) 788 800 := ⟨15, by decide +kernel, rfl, rfl⟩
set_option maxRecDepth 100000 in
theorem dL_law__788 : D mL_law_ 788 (.aload_n 3) 1 789 := ⟨by decide +kernel, rfl⟩
set_option maxRecDepth 100000 in
theorem dL_law__789 : D mL_law_ 789 (.iconst 0) 1 790 := ⟨by decide +kernel, rfl⟩
set_option maxRecDepth 100000 in
theorem dL_law__790 : D mL_law_ 790 (.laload) 1 791 := ⟨by decide +kernel, rfl⟩
set_option maxRecDepth 100000 in
theorem dL_law__791 : D mL_law_ 791 (.iload 6) 2 793 := ⟨by decide +kernel, rfl⟩
set_option maxRecDepth 100000 in
theorem dL_law__793 : D mL_law_ 793 (.i2l) 1 794 := ⟨by decide +kernel, rfl⟩
set_option maxRecDepth 100000 in
theorem dL_law__794 : D mL_law_ 794 (.lcmp) 1 795 := ⟨by decide +kernel, rfl⟩
set_option maxRecDepth 100000 in
theorem dL_law__795 : DI mL_law_ 795 (Instr.ifCond .eq) 798 800 := ⟨5, by decide +kernel, rfl, rfl⟩
set_option maxRecDepth 100000 in
theorem dL_law__798 : D mL_law_ 798 (.iconst 0) 1 799 := ⟨by decide +kernel, rfl⟩
set_option maxRecDepth 100000 in
theorem dL_law__799 : D mL_law_ 799 (.ireturn) 1 800 := ⟨by decide +kernel, rfl⟩
set_option maxRecDepth 100000 in
theorem dL_law__800 : DI mL_law_ 800 Instr.goto 803 2859 := ⟨2059, by decide +kernel, rfl, rfl⟩
set_option maxRecDepth 100000 in
theorem dL_law__803 : D mL_law_ 803 (.aload_n 1) 1 804 := ⟨by decide +kernel, rfl⟩
set_option maxRecDepth 100000 in
theorem dL_law__804 : D mL_law_ 804 (.aload_n 0) 1 805 := ⟨by decide +kernel, rfl⟩
set_option maxRecDepth 100000 in
theorem dL_law__805 : D mL_law_ 805 (.iload 4) 2 807 := ⟨by decide +kernel, rfl⟩
set_option maxRecDepth 100000 in
theorem dL_law__807 : D mL_law_ 807 (.iconst 1) 1 808 := ⟨by decide +kernel, rfl⟩
set_option maxRecDepth 100000 in
theorem dL_law__808 : D mL_law_ 808 (.iadd) 1 809 := ⟨by decide +kernel, rfl⟩
set_option maxRecDepth 100000 in
theorem dL_law__809 : D mL_law_ 809 (.iaload) 1 810 := ⟨by decide +kernel, rfl⟩
set_option maxRecDepth 100000 in
theorem dL_law__810 : D mL_law_ 810 (.aload_n 0) 1 811 := ⟨by decide +kernel, rfl⟩
set_option maxRecDepth 100000 in
theorem dL_law__811 : D mL_law_ 811 (.iload 4) 2 813 := ⟨by decide +kernel, rfl⟩
set_option maxRecDepth 100000 in
theorem dL_law__813 : D mL_law_ 813 (.iconst 2) 1 814 := ⟨by decide +kernel, rfl⟩
set_option maxRecDepth 100000 in
theorem dL_law__814 : D mL_law_ 814 (.iadd) 1 815 := ⟨by decide +kernel, rfl⟩
set_option maxRecDepth 100000 in
theorem dL_law__815 : D mL_law_ 815 (.iaload) 1 816 := ⟨by decide +kernel, rfl⟩
set_option maxRecDepth 100000 in
theorem dL_law__816 : D mL_law_ 816 (.aload_n 0) 1 817 := ⟨by decide +kernel, rfl⟩
set_option maxRecDepth 100000 in
theorem dL_law__817 : D mL_law_ 817 (.iload 4) 2 819 := ⟨by decide +kernel, rfl⟩
set_option maxRecDepth 100000 in
theorem dL_law__819 : D mL_law_ 819 (.iconst 3) 1 820 := ⟨by decide +kernel, rfl⟩
set_option maxRecDepth 100000 in
theorem dL_law__820 : D mL_law_ 820 (.iadd) 1 821 := ⟨by decide +kernel, rfl⟩
set_option maxRecDepth 100000 in
theorem dL_law__821 : D mL_law_ 821 (.iaload) 1 822 := ⟨by decide +kernel, rfl⟩
set_option maxRecDepth 100000 in
theorem dL_law__822 : D mL_law_ 822 (.aload_n 3) 1 823 := ⟨by decide +kernel, rfl⟩
set_option maxRecDepth 100000 in
theorem dL_law__823 : D mL_law_ 823 (.invokestatic 174) 3 826 := ⟨by decide +kernel, rfl⟩
set_option maxRecDepth 100000 in
theorem dL_law__826 : D mL_law_ 826 (.istore 5) 2 828 := ⟨by decide +kernel, rfl⟩
set_option maxRecDepth 100000 in
theorem dL_law__828 : D mL_law_ 828 (.aload_n 2) 1 829 := ⟨by decide +kernel, rfl⟩
set_option maxRecDepth 100000 in
theorem dL_law__829 : D mL_law_ 829 (.aload_n 0) 1 830 := ⟨by decide +kernel, rfl⟩
set_option maxRecDepth 100000 in
theorem dL_law__830 : D mL_law_ 830 (.iload 4) 2 832 := ⟨by decide +kernel, rfl⟩
set_option maxRecDepth 100000 in
theorem dL_law__832 : D mL_law_ 832 (.iconst 1) 1 833 := ⟨by decide +kernel, rfl⟩
set_option maxRecDepth 100000 in
theorem dL_law__833 : D mL_law_ 833 (.iadd) 1 834 := ⟨by decide +kernel, rfl⟩
set_option maxRecDepth 100000 in
theorem dL_law__834 : D mL_law_ 834 (.iaload) 1 835 := ⟨by decide +kernel, rfl⟩
set_option maxRecDepth 100000 in
theorem dL_law__835 : D mL_law_ 835 (.aload_n 0) 1 836 := ⟨by decide +kernel, rfl⟩
set_option maxRecDepth 100000 in
theorem dL_law__836 : D mL_law_ 836 (.iload 4) 2 838 := ⟨by decide +kernel, rfl⟩
set_option maxRecDepth 100000 in
theorem dL_law__838 : D mL_law_ 838 (.iconst 2) 1 839 := ⟨by decide +kernel, rfl⟩
set_option maxRecDepth 100000 in
theorem dL_law__839 : D mL_law_ 839 (.iadd) 1 840 := ⟨by decide +kernel, rfl⟩
set_option maxRecDepth 100000 in
theorem dL_law__840 : D mL_law_ 840 (.iaload) 1 841 := ⟨by decide +kernel, rfl⟩
set_option maxRecDepth 100000 in
theorem dL_law__841 : D mL_law_ 841 (.aload_n 0) 1 842 := ⟨by decide +kernel, rfl⟩
set_option maxRecDepth 100000 in
theorem dL_law__842 : D mL_law_ 842 (.iload 4) 2 844 := ⟨by decide +kernel, rfl⟩
set_option maxRecDepth 100000 in
theorem dL_law__844 : D mL_law_ 844 (.iconst 3) 1 845 := ⟨by decide +kernel, rfl⟩
set_option maxRecDepth 100000 in
theorem dL_law__845 : D mL_law_ 845 (.iadd) 1 846 := ⟨by decide +kernel, rfl⟩
set_option maxRecDepth 100000 in
theorem dL_law__846 : D mL_law_ 846 (.iaload) 1 847 := ⟨by decide +kernel, rfl⟩
set_option maxRecDepth 100000 in
theorem dL_law__847 : D mL_law_ 847 (.invokevirtual 176) 3 850 := ⟨by decide +kernel, rfl⟩
set_option maxRecDepth 100000 in
theorem dL_law__850 : D mL_law_ 850 (.istore 6) 2 852 := ⟨by decide +kernel, rfl⟩
set_option maxRecDepth 100000 in
theorem dL_law__852 : D mL_law_ 852 (.aload_n 2) 1 853 := ⟨by decide +kernel, rfl⟩
set_option maxRecDepth 100000 in
theorem dL_law__853 : D mL_law_ 853 (.invokevirtual 146) 3 856 := ⟨by decide +kernel, rfl⟩
set_option maxRecDepth 100000 in
theorem dL_law__856 : D mL_law_ 856 (.iload 5) 2 858 := ⟨by decide +kernel, rfl⟩
set_option maxRecDepth 100000 in
theorem dL_law__858 : DI mL_law_ 858 (Instr.if_icmp .eq) 861 863 := ⟨5, by decide +kernel, rfl, rfl⟩
set_option maxRecDepth 100000 in
theorem dL_law__861 : D mL_law_ 861 (.iconst 0) 1 862 := ⟨by decide +kernel, rfl⟩
set_option maxRecDepth 100000 in
theorem dL_law__862 : D mL_law_ 862 (.ireturn) 1 863 := ⟨by decide +kernel, rfl⟩
set_option maxRecDepth 100000 in
theorem dL_law__863 : D mL_law_ 863 (.iload 5) 2 865 := ⟨by decide +kernel, rfl⟩
set_option maxRecDepth 100000 in
theorem dL_law__865 : DI mL_law_ 865 (Instr.ifCond .ne) 868 880 := ⟨15, by decide +kernel, rfl, rfl⟩
set_option maxRecDepth 100000 in
theorem dL_law__868 : D mL_law_ 868 (.aload_n 3) 1 869 := ⟨by decide +kernel, rfl⟩
set_option maxRecDepth 100000 in
theorem dL_law__869 : D mL_law_ 869 (.iconst 0) 1 870 := ⟨by decide +kernel, rfl⟩
set_option maxRecDepth 100000 in
theorem dL_law__870 : D mL_law_ 870 (.laload) 1 871 := ⟨by decide +kernel, rfl⟩
set_option maxRecDepth 100000 in
theorem dL_law__871 : D mL_law_ 871 (.iload 6) 2 873 := ⟨by decide +kernel, rfl⟩
set_option maxRecDepth 100000 in
theorem dL_law__873 : D mL_law_ 873 (.i2l) 1 874 := ⟨by decide +kernel, rfl⟩
set_option maxRecDepth 100000 in
theorem dL_law__874 : D mL_law_ 874 (.lcmp) 1 875 := ⟨by decide +kernel, rfl⟩
set_option maxRecDepth 100000 in
theorem dL_law__875 : DI mL_law_ 875 (Instr.ifCond .eq) 878 880 := ⟨5, by decide +kernel, rfl, rfl⟩
set_option maxRecDepth 100000 in
theorem dL_law__878 : D mL_law_ 878 (.iconst 0) 1 879 := ⟨by decide +kernel, rfl⟩
set_option maxRecDepth 100000 in
theorem dL_law__879 : D mL_law_ 879 (.ireturn) 1 880 := ⟨by decide +kernel, rfl⟩
set_option maxRecDepth 100000 in
theorem dL_law__880 : DI mL_law_ 880 Instr.goto 883 2859 := ⟨1979, by decide +kernel, rfl, rfl⟩
set_option maxRecDepth 100000 in
theorem dL_law__883 : D mL_law_ 883 (.aload_n 1) 1 884 := ⟨by decide +kernel, rfl⟩
set_option maxRecDepth 100000 in
theorem dL_law__884 : D mL_law_ 884 (.aload_n 0) 1 885 := ⟨by decide +kernel, rfl⟩
set_option maxRecDepth 100000 in
theorem dL_law__885 : D mL_law_ 885 (.iload 4) 2 887 := ⟨by decide +kernel, rfl⟩
set_option maxRecDepth 100000 in
theorem dL_law__887 : D mL_law_ 887 (.iconst 1) 1 888 := ⟨by decide +kernel, rfl⟩
set_option maxRecDepth 100000 in
theorem dL_law__888 : D mL_law_ 888 (.iadd) 1 889 := ⟨by decide +kernel, rfl⟩
set_option maxRecDepth 100000 in
theorem dL_law__889 : D mL_law_ 889 (.iaload) 1 890 := ⟨by decide +kernel, rfl⟩
set_option maxRecDepth 100000 in
theorem dL_law__890 : D mL_law_ 890 (.aload_n 3) 1 891 := ⟨by decide +kernel, rfl⟩
set_option maxRecDepth 100000 in
theorem dL_law__891 : D mL_law_ 891 (.invokestatic 177) 3 894 := ⟨by decide +kernel, rfl⟩
set_option maxRecDepth 100000 in
theorem dL_law__894 : D mL_law_ 894 (.istore 5) 2 896 := ⟨by decide +kernel, rfl⟩
set_option maxRecDepth 100000 in
theorem dL_law__896 : D mL_law_ 896 (.aload_n 2) 1 897 := ⟨by decide +kernel, rfl⟩
set_option maxRecDepth 100000 in
theorem dL_law__897 : D mL_law_ 897 (.aload_n 0) 1 898 := ⟨by decide +kernel, rfl⟩
set_option maxRecDepth 100000 in
theorem dL_law__898 : D mL_law_ 898 (.iload 4) 2 900 := ⟨by decide +kernel, rfl⟩
set_option maxRecDepth 100000 in
theorem dL_law__900 : D mL_law_ 900 (.iconst 1) 1 901 := ⟨by decide +kernel, rfl⟩
set_option maxRecDepth 100000 in
theorem dL_law__901 : D mL_law_ 901 (.iadd) 1 902 := ⟨by decide +kernel, rfl⟩
set_option maxRecDepth 100000 in
theorem dL_law__902 : D mL_law_ 902 (.iaload) 1 903 := ⟨by decide +kernel, rfl⟩
set_option maxRecDepth 100000 in
theorem dL_law__903 : D mL_law_ 903 (.invokevirtual 179) 3 906 := ⟨by decide +kernel, rfl⟩
set_option maxRecDepth 100000 in
theorem dL_law__906 : D mL_law_ 906 (.istore 6) 2 908 := ⟨by decide +kernel, rfl⟩
set_option maxRecDepth 100000 in
theorem dL_law__908 : D mL_law_ 908 (.aload_n 2) 1 909 := ⟨by decide +kernel, rfl⟩
set_option maxRecDepth 100000 in
theorem dL_law__909 : D mL_law_ 909 (.invokevirtual 146) 3 912 := ⟨by decide +kernel, rfl⟩
set_option maxRecDepth 100000 in
theorem dL_law__912 : D mL_law_ 912 (.iload 5) 2 914 := ⟨by decide +kernel, rfl⟩
set_option maxRecDepth 100000 in
theorem dL_law__914 : DI mL_law_ 914 (Instr.if_icmp .eq) 917 919 := ⟨5, by decide +kernel, rfl, rfl⟩
set_option maxRecDepth 100000 in
theorem dL_law__917 : D mL_law_ 917 (.iconst 0) 1 918 := ⟨by decide +kernel, rfl⟩
set_option maxRecDepth 100000 in
theorem dL_law__918 : D mL_law_ 918 (.ireturn) 1 919 := ⟨by decide +kernel, rfl⟩
set_option maxRecDepth 100000 in
theorem dL_law__919 : D mL_law_ 919 (.iload 5) 2 921 := ⟨by decide +kernel, rfl⟩
set_option maxRecDepth 100000 in
theorem dL_law__921 : DI mL_law_ 921 (Instr.ifCond .ne) 924 936 := ⟨15, by decide +kernel, rfl, rfl⟩
set_option maxRecDepth 100000 in
theorem dL_law__924 : D mL_law_ 924 (.aload_n 3) 1 925 := ⟨by decide +kernel, rfl⟩
set_option maxRecDepth 100000 in
theorem dL_law__925 : D mL_law_ 925 (.iconst 0) 1 926 := ⟨by decide +kernel, rfl⟩
set_option maxRecDepth 100000 in
theorem dL_law__926 : D mL_law_ 926 (.laload) 1 927 := ⟨by decide +kernel, rfl⟩
set_option maxRecDepth 100000 in
theorem dL_law__927 : D mL_law_ 927 (.iload 6) 2 929 := ⟨by decide +kernel, rfl⟩
set_option maxRecDepth 100000 in
theorem dL_law__929 : D mL_law_ 929 (.i2l) 1 930 := ⟨by decide +kernel, rfl⟩
set_option maxRecDepth 100000 in
theorem dL_law__930 : D mL_law_ 930 (.lcmp) 1 931 := ⟨by decide +kernel, rfl⟩
set_option maxRecDepth 100000 in
theorem dL_law__931 : DI mL_law_ 931 (Instr.ifCond .eq) 934 936 := ⟨5, by decide +kernel, rfl, rfl⟩
set_option maxRecDepth 100000 in
theorem dL_law__934 : D mL_law_ 934 (.iconst 0) 1 935 := ⟨by decide +kernel, rfl⟩
set_option maxRecDepth 100000 in
theorem dL_law__935 : D mL_law_ 935 (.ireturn) 1 936 := ⟨by decide +kernel, rfl⟩
set_option maxRecDepth 100000 in
theorem dL_law__936 : DI mL_law_ 936 Instr.goto 939 2859 := ⟨1923, by decide +kernel, rfl, rfl⟩
set_option maxRecDepth 100000 in
theorem dL_law__939 : D mL_law_ 939 (.aload_n 1) 1 940 := ⟨by decide +kernel, rfl⟩
set_option maxRecDepth 100000 in
theorem dL_law__940 : D mL_law_ 940 (.aload_n 0) 1 941 := ⟨by decide +kernel, rfl⟩
set_option maxRecDepth 100000 in
theorem dL_law__941 : D mL_law_ 941 (.iload 4) 2 943 := ⟨by decide +kernel, rfl⟩
set_option maxRecDepth 100000 in
theorem dL_law__943 : D mL_law_ 943 (.iconst 1) 1 944 := ⟨by decide +kernel, rfl⟩
set_option maxRecDepth 100000 in
theorem dL_law__944 : D mL_law_ 944 (.iadd) 1 945 := ⟨by decide +kernel, rfl⟩
set_option maxRecDepth 100000 in
theorem dL_law__945 : D mL_law_ 945 (.iaload) 1 946 := ⟨by decide +kernel, rfl⟩
set_option maxRecDepth 100000 in
theorem dL_law__946 : D mL_law_ 946 (.aload_n 0) 1 947 := ⟨by decide +kernel, rfl⟩
set_option maxRecDepth 100000 in
theorem dL_law__947 : D mL_law_ 947 (.iload 4) 2 949 := ⟨by decide +kernel, rfl⟩
set_option maxRecDepth 100000 in
theorem dL_law__949 : D mL_law_ 949 (.iconst 2) 1 950 := ⟨by decide +kernel, rfl⟩
set_option maxRecDepth 100000 in
theorem dL_law__950 : D mL_law_ 950 (.iadd) 1 951 := ⟨by decide +kernel, rfl⟩
set_option maxRecDepth 100000 in
theorem dL_law__951 : D mL_law_ 951 (.iaload) 1 952 := ⟨by decide +kernel, rfl⟩
set_option maxRecDepth 100000 in
theorem dL_law__952 : D mL_law_ 952 (.aload_n 0) 1 953 := ⟨by decide +kernel, rfl⟩
set_option maxRecDepth 100000 in
theorem dL_law__953 : D mL_law_ 953 (.iload 4) 2 955 := ⟨by decide +kernel, rfl⟩
set_option maxRecDepth 100000 in
theorem dL_law__955 : D mL_law_ 955 (.iconst 3) 1 956 := ⟨by decide +kernel, rfl⟩
set_option maxRecDepth 100000 in
theorem dL_law__956 : D mL_law_ 956 (.iadd) 1 957 := ⟨by decide +kernel, rfl⟩
set_option maxRecDepth 100000 in
theorem dL_law__957 : D mL_law_ 957 (.iaload) 1 958 := ⟨by decide +kernel, rfl⟩
set_option maxRecDepth 100000 in
theorem dL_law__958 : D mL_law_ 958 (.aload_n 3) 1 959 := ⟨by decide +kernel, rfl⟩
set_option maxRecDepth 100000 in
theorem dL_law__959 : D mL_law_ 959 (.invokestatic 180) 3 962 := ⟨by decide +kernel, rfl⟩
set_option maxRecDepth 100000 in
theorem dL_law__962 : D mL_law_ 962 (.istore 5) 2 964 := ⟨by decide +kernel, rfl⟩
set_option maxRecDepth 100000 in
theorem dL_law__964 : D mL_law_ 964 (.aload_n 2) 1 965 := ⟨by decide +kernel, rfl⟩
set_option maxRecDepth 100000 in
theorem dL_law__965 : D mL_law_ 965 (.aload_n 0) 1 966 := ⟨by decide +kernel, rfl⟩
set_option maxRecDepth 100000 in
theorem dL_law__966 : D mL_law_ 966 (.iload 4) 2 968 := ⟨by decide +kernel, rfl⟩
set_option maxRecDepth 100000 in
theorem dL_law__968 : D mL_law_ 968 (.iconst 1) 1 969 := ⟨by decide +kernel, rfl⟩
set_option maxRecDepth 100000 in
theorem dL_law__969 : D mL_law_ 969 (.iadd) 1 970 := ⟨by decide +kernel, rfl⟩
set_option maxRecDepth 100000 in
theorem dL_law__970 : D mL_law_ 970 (.iaload) 1 971 := ⟨by decide +kernel, rfl⟩
set_option maxRecDepth 100000 in
theorem dL_law__971 : D mL_law_ 971 (.aload_n 0) 1 972 := ⟨by decide +kernel, rfl⟩
set_option maxRecDepth 100000 in
theorem dL_law__972 : D mL_law_ 972 (.iload 4) 2 974 := ⟨by decide +kernel, rfl⟩
set_option maxRecDepth 100000 in
theorem dL_law__974 : D mL_law_ 974 (.iconst 2) 1 975 := ⟨by decide +kernel, rfl⟩
set_option maxRecDepth 100000 in
theorem dL_law__975 : D mL_law_ 975 (.iadd) 1 976 := ⟨by decide +kernel, rfl⟩
set_option maxRecDepth 100000 in
theorem dL_law__976 : D mL_law_ 976 (.iaload) 1 977 := ⟨by decide +kernel, rfl⟩
set_option maxRecDepth 100000 in
theorem dL_law__977 : D mL_law_ 977 (.aload_n 0) 1 978 := ⟨by decide +kernel, rfl⟩
set_option maxRecDepth 100000 in
theorem dL_law__978 : D mL_law_ 978 (.iload 4) 2 980 := ⟨by decide +kernel, rfl⟩
set_option maxRecDepth 100000 in
theorem dL_law__980 : D mL_law_ 980 (.iconst 3) 1 981 := ⟨by decide +kernel, rfl⟩
set_option maxRecDepth 100000 in
theorem dL_law__981 : D mL_law_ 981 (.iadd) 1 982 := ⟨by decide +kernel, rfl⟩
set_option maxRecDepth 100000 in
theorem dL_law__982 : D mL_law_ 982 (.iaload) 1 983 := ⟨by decide +kernel, rfl⟩
set_option maxRecDepth 100000 in
theorem dL_law__983 : D mL_law_ 983 (.invokevirtual 182) 3 986 := ⟨by decide +kernel, rfl⟩
set_option maxRecDepth 100000 in
theorem dL_law__986 : D mL_law_ 986 (.istore 6) 2 988 := ⟨by decide +kernel, rfl⟩
set_option maxRecDepth 100000 in
theorem dL_law__988 : D mL_law_ 988 (.aload_n 2) 1 989 := ⟨by decide +kernel, rfl⟩
set_option maxRecDepth 100000 in
theorem dL_law__989 : D mL_law_ 989 (.invokevirtual 146) 3 992 := ⟨by decide +kernel, rfl⟩
set_option maxRecDepth 100000 in
theorem dL_law__992 : D mL_law_ 992 (.iload 5) 2 994 := ⟨by decide +kernel, rfl⟩
set_option maxRecDepth 100000 in
theorem dL_law__994 : DI mL_law_ 994 (Instr.if_icmp .eq) 997 999 := ⟨5, by decide +kernel, rfl, rfl⟩
set_option maxRecDepth 100000 in
theorem dL_law__997 : D mL_law_ 997 (.iconst 0) 1 998 := ⟨by decide +kernel, rfl⟩
set_option maxRecDepth 100000 in
theorem dL_law__998 : D mL_law_ 998 (.ireturn) 1 999 := ⟨by decide +kernel, rfl⟩
set_option maxRecDepth 100000 in
theorem dL_law__999 : D mL_law_ 999 (.iload 5) 2 1001 := ⟨by decide +kernel, rfl⟩
set_option maxRecDepth 100000 in
theorem dL_law__1001 : DI mL_law_ 1001 (Instr.ifCond .ne) 1004 1016 := ⟨15, by decide +kernel, rfl, rfl⟩
set_option maxRecDepth 100000 in
theorem dL_law__1004 : D mL_law_ 1004 (.aload_n 3) 1 1005 := ⟨by decide +kernel, rfl⟩
set_option maxRecDepth 100000 in
theorem dL_law__1005 : D mL_law_ 1005 (.iconst 0) 1 1006 := ⟨by decide +kernel, rfl⟩
set_option maxRecDepth 100000 in
theorem dL_law__1006 : D mL_law_ 1006 (.laload) 1 1007 := ⟨by decide +kernel, rfl⟩
set_option maxRecDepth 100000 in
theorem dL_law__1007 : D mL_law_ 1007 (.iload 6) 2 1009 := ⟨by decide +kernel, rfl⟩
set_option maxRecDepth 100000 in
theorem dL_law__1009 : D mL_law_ 1009 (.i2l) 1 1010 := ⟨by decide +kernel, rfl⟩
set_option maxRecDepth 100000 in
theorem dL_law__1010 : D mL_law_ 1010 (.lcmp) 1 1011 := ⟨by decide +kernel, rfl⟩
set_option maxRecDepth 100000 in
theorem dL_law__1011 : DI mL_law_ 1011 (Instr.ifCond .eq) 1014 1016 := ⟨5, by decide +kernel, rfl, rfl⟩
set_option maxRecDepth 100000 in
theorem dL_law__1014 : D mL_law_ 1014 (.iconst 0) 1 1015 := ⟨by decide +kernel, rfl⟩
set_option maxRecDepth 100000 in
theorem dL_law__1015 : D mL_law_ 1015 (.ireturn) 1 1016 := ⟨by decide +kernel, rfl⟩
set_option maxRecDepth 100000 in
theorem dL_law__1016 : DI mL_law_ 1016 Instr.goto 1019 2859 := ⟨1843, by decide +kernel, rfl, rfl⟩
set_option maxRecDepth 100000 in
theorem dL_law__1019 : D mL_law_ 1019 (.aload_n 1) 1 1020 := ⟨by decide +kernel, rfl⟩
set_option maxRecDepth 100000 in
theorem dL_law__1020 : D mL_law_ 1020 (.aload_n 0) 1 1021 := ⟨by decide +kernel, rfl⟩
set_option maxRecDepth 100000 in
theorem dL_law__1021 : D mL_law_ 1021 (.iload 4) 2 1023 := ⟨by decide +kernel, rfl⟩
set_option maxRecDepth 100000 in
theorem dL_law__1023 : D mL_law_ 1023 (.iconst 1) 1 1024 := ⟨by decide +kernel, rfl⟩
set_option maxRecDepth 100000 in
theorem dL_law__1024 : D mL_law_ 1024 (.iadd) 1 1025 := ⟨by decide +kernel, rfl⟩
set_option maxRecDepth 100000 in
theorem dL_law__1025 : D mL_law_ 1025 (.iaload) 1 1026 := ⟨by decide +kernel, rfl⟩
set_option maxRecDepth 100000 in
theorem dL_law__1026 : D mL_law_ 1026 (.aload_n 0) 1 1027 := ⟨by decide +kernel, rfl⟩
set_option maxRecDepth 100000 in
theorem dL_law__1027 : D mL_law_ 1027 (.iload 4) 2 1029 := ⟨by decide +kernel, rfl⟩
set_option maxRecDepth 100000 in
theorem dL_law__1029 : D mL_law_ 1029 (.iconst 2) 1 1030 := ⟨by decide +kernel, rfl⟩
set_option maxRecDepth 100000 in
theorem dL_law__1030 : D mL_law_ 1030 (.iadd) 1 1031 := ⟨by decide +kernel, rfl⟩
set_option maxRecDepth 100000 in
theorem dL_law__1031 : D mL_law_ 1031 (.iaload) 1 1032 := ⟨by decide +kernel, rfl⟩
set_option maxRecDepth 100000 in
theorem dL_law__1032 : D mL_law_ 1032 (.aload_n 3) 1 1033 := ⟨by decide +kernel, rfl⟩
set_option maxRecDepth 100000 in
theorem dL_law__1033 : D mL_law_ 1033 (.invokestatic 183) 3 1036 := ⟨by decide +kernel, rfl⟩
set_option maxRecDepth 100000 in
theorem dL_law__1036 : D mL_law_ 1036 (.istore 5) 2 1038 := ⟨by decide +kernel, rfl⟩
set_option maxRecDepth 100000 in
theorem dL_law__1038 : D mL_law_ 1038 (.aload_n 2) 1 1039 := ⟨by decide +kernel, rfl⟩
set_option maxRecDepth 100000 in
theorem dL_law__1039 : D mL_law_ 1039 (.aload_n 0) 1 1040 := ⟨by decide +kernel, rfl⟩
set_option maxRecDepth 100000 in
theorem dL_law__1040 : D mL_law_ 1040 (.iload 4) 2 1042 := ⟨by decide +kernel, rfl⟩
set_option maxRecDepth 100000 in
theorem dL_law__1042 : D mL_law_ 1042 (.iconst 1) 1 1043 := ⟨by decide +kernel, rfl⟩
set_option maxRecDepth 100000 in
theorem dL_law__1043 : D mL_law_ 1043 (.iadd) 1 1044 := ⟨by decide +kernel, rfl⟩
set_option maxRecDepth 100000 in
theorem dL_law__1044 : D mL_law_ 1044 (.iaload) 1 1045 := ⟨by decide +kernel, rfl⟩
set_option maxRecDepth 100000 in
theorem dL_law__1045 : D mL_law_ 1045 (.aload_n 0) 1 1046 := ⟨by decide +kernel, rfl⟩
set_option maxRecDepth 100000 in
theorem dL_law__1046 : D mL_law_ 1046 (.iload 4) 2 1048 := ⟨by decide +kernel, rfl⟩
set_option maxRecDepth 100000 in
theorem dL_law__1048 : D mL_law_ 1048 (.iconst 2) 1 1049 := ⟨by decide +kernel, rfl⟩
set_option maxRecDepth 100000 in
theorem dL_law__1049 : D mL_law_ 1049 (.iadd) 1 1050 := ⟨by decide +kernel, rfl⟩
set_option maxRecDepth 100000 in
theorem dL_law__1050 : D mL_law_ 1050 (.iaload) 1 1051 := ⟨by decide +kernel, rfl⟩
set_option maxRecDepth 100000 in
theorem dL_law__1051 : D mL_law_ 1051 (.invokevirtual 185) 3 1054 := ⟨by decide +kernel, rfl⟩
set_option maxRecDepth 100000 in
theorem dL_law__1054 : D mL_law_ 1054 (.istore 6) 2 1056 := ⟨by decide +kernel, rfl⟩
set_option maxRecDepth 100000 in
theorem dL_law__1056 : D mL_law_ 1056 (.aload_n 2) 1 1057 := ⟨by decide +kernel, rfl⟩
set_option maxRecDepth 100000 in
theorem dL_law__1057 : D mL_law_ 1057 (.invokevirtual 146) 3 1060 := ⟨by decide +kernel, rfl⟩
set_option maxRecDepth 100000 in
theorem dL_law__1060 : D mL_law_ 1060 (.iload 5) 2 1062 := ⟨by decide +kernel, rfl⟩
set_option maxRecDepth 100000 in
theorem dL_law__1062 : DI mL_law_ 1062 (Instr.if_icmp .eq) 1065 1067 := ⟨5, by decide +kernel, rfl, rfl⟩
set_option maxRecDepth 100000 in
theorem dL_law__1065 : D mL_law_ 1065 (.iconst 0) 1 1066 := ⟨by decide +kernel, rfl⟩
set_option maxRecDepth 100000 in
theorem dL_law__1066 : D mL_law_ 1066 (.ireturn) 1 1067 := ⟨by decide +kernel, rfl⟩
set_option maxRecDepth 100000 in
theorem dL_law__1067 : D mL_law_ 1067 (.iload 5) 2 1069 := ⟨by decide +kernel, rfl⟩
set_option maxRecDepth 100000 in
theorem dL_law__1069 : DI mL_law_ 1069 (Instr.ifCond .ne) 1072 1084 := ⟨15, by decide +kernel, rfl, rfl⟩
set_option maxRecDepth 100000 in
theorem dL_law__1072 : D mL_law_ 1072 (.aload_n 3) 1 1073 := ⟨by decide +kernel, rfl⟩
set_option maxRecDepth 100000 in
theorem dL_law__1073 : D mL_law_ 1073 (.iconst 0) 1 1074 := ⟨by decide +kernel, rfl⟩
set_option maxRecDepth 100000 in
theorem dL_law__1074 : D mL_law_ 1074 (.laload) 1 1075 := ⟨by decide +kernel, rfl⟩
set_option maxRecDepth 100000 in
theorem dL_law__1075 : D mL_law_ 1075 (.iload 6) 2 1077 := ⟨by decide +kernel, rfl⟩
set_option maxRecDepth 100000 in
theorem dL_law__1077 : D mL_law_ 1077 (.i2l) 1 1078 := ⟨by decide +kernel, rfl⟩
set_option maxRecDepth 100000 in
theorem dL_law__1078 : D mL_law_ 1078 (.lcmp) 1 1079 := ⟨by decide +kernel, rfl⟩
set_option maxRecDepth 100000 in
theorem dL_law__1079 : DI mL_law_ 1079 (Instr.ifCond .eq) 1082 1084 := ⟨5, by decide +kernel, rfl, rfl⟩
set_option maxRecDepth 100000 in
theorem dL_law__1082 : D mL_law_ 1082 (.iconst 0) 1 1083 := ⟨by decide +kernel, rfl⟩
set_option maxRecDepth 100000 in
theorem dL_law__1083 : D mL_law_ 1083 (.ireturn) 1 1084 := ⟨by decide +kernel, rfl⟩
set_option maxRecDepth 100000 in
theorem dL_law__1084 : DI mL_law_ 1084 Instr.goto 1087 2859 := ⟨1775, by decide +kernel, rfl, rfl⟩
set_option maxRecDepth 100000 in
theorem dL_law__1087 : D mL_law_ 1087 (.aload_n 1) 1 1088 := ⟨by decide +kernel, rfl⟩
set_option maxRecDepth 100000 in
theorem dL_law__1088 : D mL_law_ 1088 (.aload_n 0) 1 1089 := ⟨by decide +kernel, rfl⟩
set_option maxRecDepth 100000 in
theorem dL_law__1089 : D mL_law_ 1089 (.iload 4) 2 1091 := ⟨by decide +kernel, rfl⟩
set_option maxRecDepth 100000 in
theorem dL_law__1091 : D mL_law_ 1091 (.iconst 1) 1 1092 := ⟨by decide +kernel, rfl⟩
set_option maxRecDepth 100000 in
theorem dL_law__1092 : D mL_law_ 1092 (.iadd) 1 1093 := ⟨by decide +kernel, rfl⟩
set_option maxRecDepth 100000 in
theorem dL_law__1093 : D mL_law_ 1093 (.iaload) 1 1094 := ⟨by decide +kernel, rfl⟩
set_option maxRecDepth 100000 in
theorem dL_law__1094 : D mL_law_ 1094 (.aload_n 3) 1 1095 := ⟨by decide +kernel, rfl⟩
set_option maxRecDepth 100000 in
theorem dL_law__1095 : D mL_law_ 1095 (.invokestatic 186) 3 1098 := ⟨by decide +kernel, rfl⟩
set_option maxRecDepth 100000 in
theorem dL_law__1098 : D mL_law_ 1098 (.istore 5) 2 1100 := ⟨by decide +kernel, rfl⟩
set_option maxRecDepth 100000 in
theorem dL_law__1100 : D mL_law_ 1100 (.aload_n 2) 1 1101 := ⟨by decide +kernel, rfl⟩
set_option maxRecDepth 100000 in
theorem dL_law__1101 : D mL_law_ 1101 (.aload_n 0) 1 1102 := ⟨by decide +kernel, rfl⟩
set_option maxRecDepth 100000 in
theorem dL_law__1102 : D mL_law_ 1102 (.iload 4) 2 1104 := ⟨by decide +kernel, rfl⟩
set_option maxRecDepth 100000 in
theorem dL_law__1104 : D mL_law_ 1104 (.iconst 1) 1 1105 := ⟨by decide +kernel, rfl⟩
set_option maxRecDepth 100000 in
theorem dL_law__1105 : D mL_law_ 1105 (.iadd) 1 1106 := ⟨by decide +kernel, rfl⟩
set_option maxRecDepth 100000 in
theorem dL_law__1106 : D mL_law_ 1106 (.iaload) 1 1107 := ⟨by decide +kernel, rfl⟩
set_option maxRecDepth 100000 in
theorem dL_law__1107 : D mL_law_ 1107 (.invokevirtual 188) 3 1110 := ⟨by decide +kernel, rfl⟩
set_option maxRecDepth 100000 in
theorem dL_law__1110 : D mL_law_ 1110 (.istore 6) 2 1112 := ⟨by decide +kernel, rfl⟩
set_option maxRecDepth 100000 in
theorem dL_law__1112 : D mL_law_ 1112 (.aload_n 2) 1 1113 := ⟨by decide +kernel, rfl⟩
set_option maxRecDepth 100000 in
theorem dL_law__1113 : D mL_law_ 1113 (.invokevirtual 146) 3 1116 := ⟨by decide +kernel, rfl⟩
set_option maxRecDepth 100000 in
theorem dL_law__1116 : D mL_law_ 1116 (.iload 5) 2 1118 := ⟨by decide +kernel, rfl⟩
set_option maxRecDepth 100000 in
theorem dL_law__1118 : DI mL_law_ 1118 (Instr.if_icmp .eq) 1121 1123 := ⟨5, by decide +kernel, rfl, rfl⟩
set_option maxRecDepth 100000 in
theorem dL_law__1121 : D mL_law_ 1121 (.iconst 0) 1 1122 := ⟨by decide +kernel, rfl⟩
set_option maxRecDepth 100000 in
theorem dL_law__1122 : D mL_law_ 1122 (.ireturn) 1 1123 := ⟨by decide +kernel, rfl⟩
set_option maxRecDepth 100000 in
theorem dL_law__1123 : D mL_law_ 1123 (.iload 5) 2 1125 := ⟨by decide +kernel, rfl⟩
set_option maxRecDepth 100000 in
theorem dL_law__1125 : DI mL_law_ 1125 (Instr.ifCond .ne) 1128 1140 := ⟨15, by decide +kernel, rfl, rfl⟩
set_option maxRecDepth 100000 in
theorem dL_law__1128 : D mL_law_ 1128 (.aload_n 3) 1 1129 := ⟨by decide +kernel, rfl⟩
set_option maxRecDepth 100000 in
theorem dL_law__1129 : D mL_law_ 1129 (.iconst 0) 1 1130 := ⟨by decide +kernel, rfl⟩
set_option maxRecDepth 100000 in
theorem dL_law__1130 : D mL_law_ 1130 (.laload) 1 1131 := ⟨by decide +kernel, rfl⟩
set_option maxRecDepth 100000 in
theorem dL_law__1131 : D mL_law_ 1131 (.iload 6) 2 1133 := ⟨by decide +kernel, rfl⟩
set_option maxRecDepth 100000 in
theorem dL_law__1133 : D mL_law_ 1133 (.i2l) 1 1134 := ⟨by decide +kernel, rfl⟩
set_option maxRecDepth 100000 in
theorem dL_law__1134 : D mL_law_ 1134 (.lcmp) 1 1135 := ⟨by decide +kernel, rfl⟩
set_option maxRecDepth 100000 in
theorem dL_law__1135 : DI mL_law_ 1135 (Instr.ifCond .eq) 1138 1140 := ⟨5, by decide +kernel, rfl, rfl⟩
set_option maxRecDepth 100000 in
theorem dL_law__1138 : D mL_law_ 1138 (.iconst 0) 1 1139 := ⟨by decide +kernel, rfl⟩
set_option maxRecDepth 100000 in
theorem dL_law__1139 : D mL_law_ 1139 (.ireturn) 1 1140 := ⟨by decide +kernel, rfl⟩
set_option maxRecDepth 100000 in
theorem dL_law__1140 : DI mL_law_ 1140 Instr.goto 1143 2859 := ⟨1719, by decide +kernel, rfl, rfl⟩
set_option maxRecDepth 100000 in
theorem dL_law__1143 : D mL_law_ 1143 (.aload_n 1) 1 1144 := ⟨by decide +kernel, rfl⟩
set_option maxRecDepth 100000 in
theorem dL_law__1144 : D mL_law_ 1144 (.aload_n 0) 1 1145 := ⟨by decide +kernel, rfl⟩
set_option maxRecDepth 100000 in
theorem dL_law__1145 : D mL_law_ 1145 (.iload 4) 2 1147 := ⟨by decide +kernel, rfl⟩
set_option maxRecDepth 100000 in
theorem dL_law__1147 : D mL_law_ 1147 (.iconst 1) 1 1148 := ⟨by decide +kernel, rfl⟩
set_option maxRecDepth 100000 in
theorem dL_law__1148 : D mL_law_ 1148 (.iadd) 1 1149 := ⟨by decide +kernel, rfl⟩
set_option maxRecDepth 100000 in
theorem dL_law__1149 : D mL_law_ 1149 (.iaload) 1 1150 := ⟨by decide +kernel, rfl⟩
set_option maxRecDepth 100000 in
theorem dL_law__1150 : D mL_law_ 1150 (.aload_n 0) 1 1151 := ⟨by decide +kernel, rfl⟩
set_option maxRecDepth 100000 in
theorem dL_law__1151 : D mL_law_ 1151 (.iload 4) 2 1153 := ⟨by decide +kernel, rfl⟩
set_option maxRecDepth 100000 in
theorem dL_law__1153 : D mL_law_ 1153 (.iconst 2) 1 1154 := ⟨by decide +kernel, rfl⟩
set_option maxRecDepth 100000 in
theorem dL_law__1154 : D mL_law_ 1154 (.iadd) 1 1155 := ⟨by decide +kernel, rfl⟩
set_option maxRecDepth 100000 in
theorem dL_law__1155 : D mL_law_ 1155 (.iaload) 1 1156 := ⟨by decide +kernel, rfl⟩
set_option maxRecDepth 100000 in
theorem dL_law__1156 : D mL_law_ 1156 (.aload_n 3) 1 1157 := ⟨by decide +kernel, rfl⟩
set_option maxRecDepth 100000 in
theorem dL_law__1157 : D mL_law_ 1157 (.invokestatic 189) 3 1160 := ⟨by decide +kernel, rfl⟩
set_option maxRecDepth 100000 in
theorem dL_law__1160 : D mL_law_ 1160 (.istore 5) 2 1162 := ⟨by decide +kernel, rfl⟩
set_option maxRecDepth 100000 in
theorem dL_law__1162 : D mL_law_ 1162 (.aload_n 2) 1 1163 := ⟨by decide +kernel, rfl⟩
set_option maxRecDepth 100000 in
theorem dL_law__1163 : D mL_law_ 1163 (.aload_n 0) 1 1164 := ⟨by decide +kernel, rfl⟩
set_option maxRecDepth 100000 in
theorem dL_law__1164 : D mL_law_ 1164 (.iload 4) 2 1166 := ⟨by decide +kernel, rfl⟩
set_option maxRecDepth 100000 in
theorem dL_law__1166 : D mL_law_ 1166 (.iconst 1) 1 1167 := ⟨by decide +kernel, rfl⟩
set_option maxRecDepth 100000 in
theorem dL_law__1167 : D mL_law_ 1167 (.iadd) 1 1168 := ⟨by decide +kernel, rfl⟩
set_option maxRecDepth 100000 in
theorem dL_law__1168 : D mL_law_ 1168 (.iaload) 1 1169 := ⟨by decide +kernel, rfl⟩
set_option maxRecDepth 100000 in
theorem dL_law__1169 : D mL_law_ 1169 (.aload_n 0) 1 1170 := ⟨by decide +kernel, rfl⟩
set_option maxRecDepth 100000 in
theorem dL_law__1170 : D mL_law_ 1170 (.iload 4) 2 1172 := ⟨by decide +kernel, rfl⟩
set_option maxRecDepth 100000 in
theorem dL_law__1172 : D mL_law_ 1172 (.iconst 2) 1 1173 := ⟨by decide +kernel, rfl⟩
set_option maxRecDepth 100000 in
theorem dL_law__1173 : D mL_law_ 1173 (.iadd) 1 1174 := ⟨by decide +kernel, rfl⟩
set_option maxRecDepth 100000 in
theorem dL_law__1174 : D mL_law_ 1174 (.iaload) 1 1175 := ⟨by decide +kernel, rfl⟩
set_option maxRecDepth 100000 in
theorem dL_law__1175 : D mL_law_ 1175 (.invokevirtual 191) 3 1178 := ⟨by decide +kernel, rfl⟩
set_option maxRecDepth 100000 in
theorem dL_law__1178 : D mL_law_ 1178 (.istore 6) 2 1180 := ⟨by decide +kernel, rfl⟩
set_option maxRecDepth 100000 in
theorem dL_law__1180 : D mL_law_ 1180 (.aload_n 2) 1 1181 := ⟨by decide +kernel, rfl⟩
set_option maxRecDepth 100000 in
theorem dL_law__1181 : D mL_law_ 1181 (.invokevirtual 146) 3 1184 := ⟨by decide +kernel, rfl⟩
set_option maxRecDepth 100000 in
theorem dL_law__1184 : D mL_law_ 1184 (.iload 5) 2 1186 := ⟨by decide +kernel, rfl⟩
set_option maxRecDepth 100000 in
theorem dL_law__1186 : DI mL_law_ 1186 (Instr.if_icmp .eq) 1189 1191 := ⟨5, by decide +kernel, rfl, rfl⟩
set_option maxRecDepth 100000 in
theorem dL_law__1189 : D mL_law_ 1189 (.iconst 0) 1 1190 := ⟨by decide +kernel, rfl⟩
set_option maxRecDepth 100000 in
theorem dL_law__1190 : D mL_law_ 1190 (.ireturn) 1 1191 := ⟨by decide +kernel, rfl⟩
set_option maxRecDepth 100000 in
theorem dL_law__1191 : D mL_law_ 1191 (.iload 5) 2 1193 := ⟨by decide +kernel, rfl⟩
set_option maxRecDepth 100000 in
theorem dL_law__1193 : DI mL_law_ 1193 (Instr.ifCond .ne) 1196 1208 := ⟨15, by decide +kernel, rfl, rfl⟩
set_option maxRecDepth 100000 in
theorem dL_law__1196 : D mL_law_ 1196 (.aload_n 3) 1 1197 := ⟨by decide +kernel, rfl⟩
set_option maxRecDepth 100000 in
theorem dL_law__1197 : D mL_law_ 1197 (.iconst 0) 1 1198 := ⟨by decide +kernel, rfl⟩
set_option maxRecDepth 100000 in
theorem dL_law__1198 : D mL_law_ 1198 (.laload) 1 1199 := ⟨by decide +kernel, rfl⟩
set_option maxRecDepth 100000 in
theorem dL_law__1199 : D mL_law_ 1199 (.iload 6) 2 1201 := ⟨by decide +kernel, rfl⟩
set_option maxRecDepth 100000 in
theorem dL_law__1201 : D mL_law_ 1201 (.i2l) 1 1202 := ⟨by decide +kernel, rfl⟩
set_option maxRecDepth 100000 in
theorem dL_law__1202 : D mL_law_ 1202 (.lcmp) 1 1203 := ⟨by decide +kernel, rfl⟩
set_option maxRecDepth 100000 in
theorem dL_law__1203 : DI mL_law_ 1203 (Instr.ifCond .eq) 1206 1208 := ⟨5, by decide +kernel, rfl, rfl⟩
set_option maxRecDepth 100000 in
theorem dL_law__1206 : D mL_law_ 1206 (.iconst 0) 1 1207 := ⟨by decide +kernel, rfl⟩
set_option maxRecDepth 100000 in
theorem dL_law__1207 : D mL_law_ 1207 (.ireturn) 1 1208 := ⟨by decide +kernel, rfl⟩
set_option maxRecDepth 100000 in
theorem dL_law__1208 : DI mL_law_ 1208 Instr.goto 1211 2859 := ⟨1651, by decide +kernel, rfl, rfl⟩
set_option maxRecDepth 100000 in
theorem dL_law__1211 : D mL_law_ 1211 (.aload_n 1) 1 1212 := ⟨by decide +kernel, rfl⟩
set_option maxRecDepth 100000 in
theorem dL_law__1212 : D mL_law_ 1212 (.aload_n 0) 1 1213 := ⟨by decide +kernel, rfl⟩
set_option maxRecDepth 100000 in
theorem dL_law__1213 : D mL_law_ 1213 (.iload 4) 2 1215 := ⟨by decide +kernel, rfl⟩
set_option maxRecDepth 100000 in
theorem dL_law__1215 : D mL_law_ 1215 (.iconst 1) 1 1216 := ⟨by decide +kernel, rfl⟩
set_option maxRecDepth 100000 in
theorem dL_law__1216 : D mL_law_ 1216 (.iadd) 1 1217 := ⟨by decide +kernel, rfl⟩
set_option maxRecDepth 100000 in
theorem dL_law__1217 : D mL_law_ 1217 (.iaload) 1 1218 := ⟨by decide +kernel, rfl⟩
set_option maxRecDepth 100000 in
theorem dL_law__1218 : D mL_law_ 1218 (.aload_n 0) 1 1219 := ⟨by decide +kernel, rfl⟩
set_option maxRecDepth 100000 in
theorem dL_law__1219 : D mL_law_ 1219 (.iload 4) 2 1221 := ⟨by decide +kernel, rfl⟩
set_option maxRecDepth 100000 in
theorem dL_law__1221 : D mL_law_ 1221 (.iconst 2) 1 1222 := ⟨by decide +kernel, rfl⟩
set_option maxRecDepth 100000 in
theorem dL_law__1222 : D mL_law_ 1222 (.iadd) 1 1223 := ⟨by decide +kernel, rfl⟩
set_option maxRecDepth 100000 in
theorem dL_law__1223 : D mL_law_ 1223 (.iaload) 1 1224 := ⟨by decide +kernel, rfl⟩
set_option maxRecDepth 100000 in
theorem dL_law__1224 : D mL_law_ 1224 (.aload_n 3) 1 1225 := ⟨by decide +kernel, rfl⟩
set_option maxRecDepth 100000 in
theorem dL_law__1225 : D mL_law_ 1225 (.invokestatic 192) 3 1228 := ⟨by decide +kernel, rfl⟩
set_option maxRecDepth 100000 in
theorem dL_law__1228 : D mL_law_ 1228 (.istore 5) 2 1230 := ⟨by decide +kernel, rfl⟩
set_option maxRecDepth 100000 in
theorem dL_law__1230 : D mL_law_ 1230 (.aload_n 2) 1 1231 := ⟨by decide +kernel, rfl⟩
set_option maxRecDepth 100000 in
theorem dL_law__1231 : D mL_law_ 1231 (.aload_n 0) 1 1232 := ⟨by decide +kernel, rfl⟩
set_option maxRecDepth 100000 in
theorem dL_law__1232 : D mL_law_ 1232 (.iload 4) 2 1234 := ⟨by decide +kernel, rfl⟩
set_option maxRecDepth 100000 in
theorem dL_law__1234 : D mL_law_ 1234 (.iconst 1) 1 1235 := ⟨by decide +kernel, rfl⟩
set_option maxRecDepth 100000 in
theorem dL_law__1235 : D mL_law_ 1235 (.iadd) 1 1236 := ⟨by decide +kernel, rfl⟩
set_option maxRecDepth 100000 in
theorem dL_law__1236 : D mL_law_ 1236 (.iaload) 1 1237 := ⟨by decide +kernel, rfl⟩
set_option maxRecDepth 100000 in
theorem dL_law__1237 : D mL_law_ 1237 (.aload_n 0) 1 1238 := ⟨by decide +kernel, rfl⟩
set_option maxRecDepth 100000 in
theorem dL_law__1238 : D mL_law_ 1238 (.iload 4) 2 1240 := ⟨by decide +kernel, rfl⟩
set_option maxRecDepth 100000 in
theorem dL_law__1240 : D mL_law_ 1240 (.iconst 2) 1 1241 := ⟨by decide +kernel, rfl⟩
set_option maxRecDepth 100000 in
theorem dL_law__1241 : D mL_law_ 1241 (.iadd) 1 1242 := ⟨by decide +kernel, rfl⟩
set_option maxRecDepth 100000 in
theorem dL_law__1242 : D mL_law_ 1242 (.iaload) 1 1243 := ⟨by decide +kernel, rfl⟩
set_option maxRecDepth 100000 in
theorem dL_law__1243 : D mL_law_ 1243 (.invokevirtual 194) 3 1246 := ⟨by decide +kernel, rfl⟩
set_option maxRecDepth 100000 in
theorem dL_law__1246 : D mL_law_ 1246 (.istore 6) 2 1248 := ⟨by decide +kernel, rfl⟩
set_option maxRecDepth 100000 in
theorem dL_law__1248 : D mL_law_ 1248 (.aload_n 2) 1 1249 := ⟨by decide +kernel, rfl⟩
set_option maxRecDepth 100000 in
theorem dL_law__1249 : D mL_law_ 1249 (.invokevirtual 146) 3 1252 := ⟨by decide +kernel, rfl⟩
set_option maxRecDepth 100000 in
theorem dL_law__1252 : D mL_law_ 1252 (.iload 5) 2 1254 := ⟨by decide +kernel, rfl⟩
set_option maxRecDepth 100000 in
theorem dL_law__1254 : DI mL_law_ 1254 (Instr.if_icmp .eq) 1257 1259 := ⟨5, by decide +kernel, rfl, rfl⟩
set_option maxRecDepth 100000 in
theorem dL_law__1257 : D mL_law_ 1257 (.iconst 0) 1 1258 := ⟨by decide +kernel, rfl⟩
set_option maxRecDepth 100000 in
theorem dL_law__1258 : D mL_law_ 1258 (.ireturn) 1 1259 := ⟨by decide +kernel, rfl⟩
set_option maxRecDepth 100000 in
theorem dL_law__1259 : D mL_law_ 1259 (.iload 5) 2 1261 := ⟨by decide +kernel, rfl⟩
set_option maxRecDepth 100000 in
theorem dL_law__1261 : DI mL_law_ 1261 (Instr.ifCond .ne) 1264 1276 := ⟨15, by decide +kernel, rfl, rfl⟩
set_option maxRecDepth 100000 in
theorem dL_law__1264 : D mL_law_ 1264 (.aload_n 3) 1 1265 := ⟨by decide +kernel, rfl⟩
set_option maxRecDepth 100000 in
theorem dL_law__1265 : D mL_law_ 1265 (.iconst 0) 1 1266 := ⟨by decide +kernel, rfl⟩
set_option maxRecDepth 100000 in
theorem dL_law__1266 : D mL_law_ 1266 (.laload) 1 1267 := ⟨by decide +kernel, rfl⟩
set_option maxRecDepth 100000 in
theorem dL_law__1267 : D mL_law_ 1267 (.iload 6) 2 1269 := ⟨by decide +kernel, rfl⟩
set_option maxRecDepth 100000 in
theorem dL_law__1269 : D mL_law_ 1269 (.i2l) 1 1270 := ⟨by decide +kernel, rfl⟩
set_option maxRecDepth 100000 in
theorem dL_law__1270 : D mL_law_ 1270 (.lcmp) 1 1271 := ⟨by decide +kernel, rfl⟩
set_option maxRecDepth 100000 in
theorem dL_law__1271 : DI mL_law_ 1271 (Instr.ifCond .eq) 1274 1276 := ⟨5, by decide +kernel, rfl, rfl⟩
set_option maxRecDepth 100000 in
theorem dL_law__1274 : D mL_law_ 1274 (.iconst 0) 1 1275 := ⟨by decide +kernel, rfl⟩
set_option maxRecDepth 100000 in
theorem dL_law__1275 : D mL_law_ 1275 (.ireturn) 1 1276 := ⟨by decide +kernel, rfl⟩
set_option maxRecDepth 100000 in
theorem dL_law__1276 : DI mL_law_ 1276 Instr.goto 1279 2859 := ⟨1583, by decide +kernel, rfl, rfl⟩
set_option maxRecDepth 100000 in
theorem dL_law__1279 : D mL_law_ 1279 (.aload_n 1) 1 1280 := ⟨by decide +kernel, rfl⟩
set_option maxRecDepth 100000 in
theorem dL_law__1280 : D mL_law_ 1280 (.aload_n 0) 1 1281 := ⟨by decide +kernel, rfl⟩
set_option maxRecDepth 100000 in
theorem dL_law__1281 : D mL_law_ 1281 (.iload 4) 2 1283 := ⟨by decide +kernel, rfl⟩
set_option maxRecDepth 100000 in
theorem dL_law__1283 : D mL_law_ 1283 (.iconst 1) 1 1284 := ⟨by decide +kernel, rfl⟩
set_option maxRecDepth 100000 in
theorem dL_law__1284 : D mL_law_ 1284 (.iadd) 1 1285 := ⟨by decide +kernel, rfl⟩
set_option maxRecDepth 100000 in
theorem dL_law__1285 : D mL_law_ 1285 (.iaload) 1 1286 := ⟨by decide +kernel, rfl⟩
set_option maxRecDepth 100000 in
theorem dL_law__1286 : D mL_law_ 1286 (.aload_n 3) 1 1287 := ⟨by decide +kernel, rfl⟩
set_option maxRecDepth 100000 in
theorem dL_law__1287 : D mL_law_ 1287 (.invokestatic 195) 3 1290 := ⟨by decide +kernel, rfl⟩
set_option maxRecDepth 100000 in
theorem dL_law__1290 : D mL_law_ 1290 (.istore 5) 2 1292 := ⟨by decide +kernel, rfl⟩
set_option maxRecDepth 100000 in
theorem dL_law__1292 : D mL_law_ 1292 (.aload_n 2) 1 1293 := ⟨by decide +kernel, rfl⟩
set_option maxRecDepth 100000 in
theorem dL_law__1293 : D mL_law_ 1293 (.aload_n 0) 1 1294 := ⟨by decide +kernel, rfl⟩
set_option maxRecDepth 100000 in
theorem dL_law__1294 : D mL_law_ 1294 (.iload 4) 2 1296 := ⟨by decide +kernel, rfl⟩
set_option maxRecDepth 100000 in
theorem dL_law__1296 : D mL_law_ 1296 (.iconst 1) 1 1297 := ⟨by decide +kernel, rfl⟩
set_option maxRecDepth 100000 in
theorem dL_law__1297 : D mL_law_ 1297 (.iadd) 1 1298 := ⟨by decide +kernel, rfl⟩
set_option maxRecDepth 100000 in
theorem dL_law__1298 : D mL_law_ 1298 (.iaload) 1 1299 := ⟨by decide +kernel, rfl⟩
set_option maxRecDepth 100000 in
theorem dL_law__1299 : D mL_law_ 1299 (.invokevirtual 197) 3 1302 := ⟨by decide +kernel, rfl⟩
set_option maxRecDepth 100000 in
theorem dL_law__1302 : D mL_law_ 1302 (.istore 6) 2 1304 := ⟨by decide +kernel, rfl⟩
set_option maxRecDepth 100000 in
theorem dL_law__1304 : D mL_law_ 1304 (.aload_n 2) 1 1305 := ⟨by decide +kernel, rfl⟩
set_option maxRecDepth 100000 in
theorem dL_law__1305 : D mL_law_ 1305 (.invokevirtual 146) 3 1308 := ⟨by decide +kernel, rfl⟩
set_option maxRecDepth 100000 in
theorem dL_law__1308 : D mL_law_ 1308 (.iload 5) 2 1310 := ⟨by decide +kernel, rfl⟩
set_option maxRecDepth 100000 in
theorem dL_law__1310 : DI mL_law_ 1310 (Instr.if_icmp .eq) 1313 1315 := ⟨5, by decide +kernel, rfl, rfl⟩
set_option maxRecDepth 100000 in
theorem dL_law__1313 : D mL_law_ 1313 (.iconst 0) 1 1314 := ⟨by decide +kernel, rfl⟩
set_option maxRecDepth 100000 in
theorem dL_law__1314 : D mL_law_ 1314 (.ireturn) 1 1315 := ⟨by decide +kernel, rfl⟩
set_option maxRecDepth 100000 in
theorem dL_law__1315 : D mL_law_ 1315 (.iload 5) 2 1317 := ⟨by decide +kernel, rfl⟩
set_option maxRecDepth 100000 in
theorem dL_law__1317 : DI mL_law_ 1317 (Instr.ifCond .ne) 1320 1332 := ⟨15, by decide +kernel, rfl, rfl⟩
set_option maxRecDepth 100000 in
theorem dL_law__1320 : D mL_law_ 1320 (.aload_n 3) 1 1321 := ⟨by decide +kernel, rfl⟩
set_option maxRecDepth 100000 in
theorem dL_law__1321 : D mL_law_ 1321 (.iconst 0) 1 1322 := ⟨by decide +kernel, rfl⟩
set_option maxRecDepth 100000 in
theorem dL_law__1322 : D mL_law_ 1322 (.laload) 1 1323 := ⟨by decide +kernel, rfl⟩
set_option maxRecDepth 100000 in
theorem dL_law__1323 : D mL_law_ 1323 (.iload 6) 2 1325 := ⟨by decide +kernel, rfl⟩
set_option maxRecDepth 100000 in
theorem dL_law__1325 : D mL_law_ 1325 (.i2l) 1 1326 := ⟨by decide +kernel, rfl⟩
set_option maxRecDepth 100000 in
theorem dL_law__1326 : D mL_law_ 1326 (.lcmp) 1 1327 := ⟨by decide +kernel, rfl⟩
set_option maxRecDepth 100000 in
theorem dL_law__1327 : DI mL_law_ 1327 (Instr.ifCond .eq) 1330 1332 := ⟨5, by decide +kernel, rfl, rfl⟩
set_option maxRecDepth 100000 in
theorem dL_law__1330 : D mL_law_ 1330 (.iconst 0) 1 1331 := ⟨by decide +kernel, rfl⟩
set_option maxRecDepth 100000 in
theorem dL_law__1331 : D mL_law_ 1331 (.ireturn) 1 1332 := ⟨by decide +kernel, rfl⟩
set_option maxRecDepth 100000 in
theorem dL_law__1332 : DI mL_law_ 1332 Instr.goto 1335 2859 := ⟨1527, by decide +kernel, rfl, rfl⟩
set_option maxRecDepth 100000 in
theorem dL_law__1335 : D mL_law_ 1335 (.aload_n 1) 1 1336 := ⟨by decide +kernel, rfl⟩
set_option maxRecDepth 100000 in
theorem dL_law__1336 : D mL_law_ 1336 (.aload_n 0) 1 1337 := ⟨by decide +kernel, rfl⟩
set_option maxRecDepth 100000 in
theorem dL_law__1337 : D mL_law_ 1337 (.iload 4) 2 1339 := ⟨by decide +kernel, rfl⟩
set_option maxRecDepth 100000 in
theorem dL_law__1339 : D mL_law_ 1339 (.iconst 1) 1 1340 := ⟨by decide +kernel, rfl⟩
set_option maxRecDepth 100000 in
theorem dL_law__1340 : D mL_law_ 1340 (.iadd) 1 1341 := ⟨by decide +kernel, rfl⟩
set_option maxRecDepth 100000 in
theorem dL_law__1341 : D mL_law_ 1341 (.iaload) 1 1342 := ⟨by decide +kernel, rfl⟩
set_option maxRecDepth 100000 in
theorem dL_law__1342 : D mL_law_ 1342 (.aload_n 0) 1 1343 := ⟨by decide +kernel, rfl⟩
set_option maxRecDepth 100000 in
theorem dL_law__1343 : D mL_law_ 1343 (.iload 4) 2 1345 := ⟨by decide +kernel, rfl⟩
set_option maxRecDepth 100000 in
theorem dL_law__1345 : D mL_law_ 1345 (.iconst 2) 1 1346 := ⟨by decide +kernel, rfl⟩
set_option maxRecDepth 100000 in
theorem dL_law__1346 : D mL_law_ 1346 (.iadd) 1 1347 := ⟨by decide +kernel, rfl⟩
set_option maxRecDepth 100000 in
theorem dL_law__1347 : D mL_law_ 1347 (.iaload) 1 1348 := ⟨by decide +kernel, rfl⟩
set_option maxRecDepth 100000 in
theorem dL_law__1348 : D mL_law_ 1348 (.aload_n 3) 1 1349 := ⟨by decide +kernel, rfl⟩
set_option maxRecDepth 100000 in
theorem dL_law__1349 : D mL_law_ 1349 (.invokestatic 198) 3 1352 := ⟨by decide +kernel, rfl⟩
set_option maxRecDepth 100000 in
theorem dL_law__1352 : D mL_law_ 1352 (.istore 5) 2 1354 := ⟨by decide +kernel, rfl⟩
set_option maxRecDepth 100000 in
theorem dL_law__1354 : D mL_law_ 1354 (.aload_n 2) 1 1355 := ⟨by decide +kernel, rfl⟩
set_option maxRecDepth 100000 in
theorem dL_law__1355 : D mL_law_ 1355 (.aload_n 0) 1 1356 := ⟨by decide +kernel, rfl⟩
set_option maxRecDepth 100000 in
theorem dL_law__1356 : D mL_law_ 1356 (.iload 4) 2 1358 := ⟨by decide +kernel, rfl⟩
set_option maxRecDepth 100000 in
theorem dL_law__1358 : D mL_law_ 1358 (.iconst 1) 1 1359 := ⟨by decide +kernel, rfl⟩
set_option maxRecDepth 100000 in
theorem dL_law__1359 : D mL_law_ 1359 (.iadd) 1 1360 := ⟨by decide +kernel, rfl⟩
set_option maxRecDepth 100000 in
theorem dL_law__1360 : D mL_law_ 1360 (.iaload) 1 1361 := ⟨by decide +kernel, rfl⟩
set_option maxRecDepth 100000 in
theorem dL_law__1361 : D mL_law_ 1361 (.aload_n 0) 1 1362 := ⟨by decide +kernel, rfl⟩
set_option maxRecDepth 100000 in
theorem dL_law__1362 : D mL_law_ 1362 (.iload 4) 2 1364 := ⟨by decide +kernel, rfl⟩
set_option maxRecDepth 100000 in
theorem dL_law__1364 : D mL_law_ 1364 (.iconst 2) 1 1365 := ⟨by decide +kernel, rfl⟩
set_option maxRecDepth 100000 in
theorem dL_law__1365 : D mL_law_ 1365 (.iadd) 1 1366 := ⟨by decide +kernel, rfl⟩
set_option maxRecDepth 100000 in
theorem dL_law__1366 : D mL_law_ 1366 (.iaload) 1 1367 := ⟨by decide +kernel, rfl⟩
set_option maxRecDepth 100000 in
theorem dL_law__1367 : D mL_law_ 1367 (.invokevirtual 200) 3 1370 := ⟨by decide +kernel, rfl⟩
set_option maxRecDepth 100000 in
theorem dL_law__1370 : D mL_law_ 1370 (.istore 6) 2 1372 := ⟨by decide +kernel, rfl⟩
set_option maxRecDepth 100000 in
theorem dL_law__1372 : D mL_law_ 1372 (.aload_n 2) 1 1373 := ⟨by decide +kernel, rfl⟩
set_option maxRecDepth 100000 in
theorem dL_law__1373 : D mL_law_ 1373 (.invokevirtual 146) 3 1376 := ⟨by decide +kernel, rfl⟩
set_option maxRecDepth 100000 in
theorem dL_law__1376 : D mL_law_ 1376 (.iload 5) 2 1378 := ⟨by decide +kernel, rfl⟩
set_option maxRecDepth 100000 in
theorem dL_law__1378 : DI mL_law_ 1378 (Instr.if_icmp .eq) 1381 1383 := ⟨5, by decide +kernel, rfl, rfl⟩
set_option maxRecDepth 100000 in
theorem dL_law__1381 : D mL_law_ 1381 (.iconst 0) 1 1382 := ⟨by decide +kernel, rfl⟩
set_option maxRecDepth 100000 in
theorem dL_law__1382 : D mL_law_ 1382 (.ireturn) 1 1383 := ⟨by decide +kernel, rfl⟩
set_option maxRecDepth 100000 in
theorem dL_law__1383 : D mL_law_ 1383 (.iload 5) 2 1385 := ⟨by decide +kernel, rfl⟩
set_option maxRecDepth 100000 in
theorem dL_law__1385 : DI mL_law_ 1385 (Instr.ifCond .ne) 1388 1400 := ⟨15, by decide +kernel, rfl, rfl⟩
set_option maxRecDepth 100000 in
theorem dL_law__1388 : D mL_law_ 1388 (.aload_n 3) 1 1389 := ⟨by decide +kernel, rfl⟩
set_option maxRecDepth 100000 in
theorem dL_law__1389 : D mL_law_ 1389 (.iconst 0) 1 1390 := ⟨by decide +kernel, rfl⟩
set_option maxRecDepth 100000 in
theorem dL_law__1390 : D mL_law_ 1390 (.laload) 1 1391 := ⟨by decide +kernel, rfl⟩
set_option maxRecDepth 100000 in
theorem dL_law__1391 : D mL_law_ 1391 (.iload 6) 2 1393 := ⟨by decide +kernel, rfl⟩
set_option maxRecDepth 100000 in
theorem dL_law__1393 : D mL_law_ 1393 (.i2l) 1 1394 := ⟨by decide +kernel, rfl⟩
set_option maxRecDepth 100000 in
theorem dL_law__1394 : D mL_law_ 1394 (.lcmp) 1 1395 := ⟨by decide +kernel, rfl⟩
set_option maxRecDepth 100000 in
theorem dL_law__1395 : DI mL_law_ 1395 (Instr.ifCond .eq) 1398 1400 := ⟨5, by decide +kernel, rfl, rfl⟩
set_option maxRecDepth 100000 in
theorem dL_law__1398 : D mL_law_ 1398 (.iconst 0) 1 1399 := ⟨by decide +kernel, rfl⟩
set_option maxRecDepth 100000 in
theorem dL_law__1399 : D mL_law_ 1399 (.ireturn) 1 1400 := ⟨by decide +kernel, rfl⟩
set_option maxRecDepth 100000 in
theorem dL_law__1400 : DI mL_law_ 1400 Instr.goto 1403 2859 := ⟨1459, by decide +kernel, rfl, rfl⟩
set_option maxRecDepth 100000 in
theorem dL_law__1403 : D mL_law_ 1403 (.aload_n 1) 1 1404 := ⟨by decide +kernel, rfl⟩
set_option maxRecDepth 100000 in
theorem dL_law__1404 : D mL_law_ 1404 (.aload_n 0) 1 1405 := ⟨by decide +kernel, rfl⟩
set_option maxRecDepth 100000 in
theorem dL_law__1405 : D mL_law_ 1405 (.iload 4) 2 1407 := ⟨by decide +kernel, rfl⟩
set_option maxRecDepth 100000 in
theorem dL_law__1407 : D mL_law_ 1407 (.iconst 1) 1 1408 := ⟨by decide +kernel, rfl⟩
set_option maxRecDepth 100000 in
theorem dL_law__1408 : D mL_law_ 1408 (.iadd) 1 1409 := ⟨by decide +kernel, rfl⟩
set_option maxRecDepth 100000 in
theorem dL_law__1409 : D mL_law_ 1409 (.iaload) 1 1410 := ⟨by decide +kernel, rfl⟩
set_option maxRecDepth 100000 in
theorem dL_law__1410 : D mL_law_ 1410 (.aload_n 0) 1 1411 := ⟨by decide +kernel, rfl⟩
set_option maxRecDepth 100000 in
theorem dL_law__1411 : D mL_law_ 1411 (.iload 4) 2 1413 := ⟨by decide +kernel, rfl⟩
set_option maxRecDepth 100000 in
theorem dL_law__1413 : D mL_law_ 1413 (.iconst 2) 1 1414 := ⟨by decide +kernel, rfl⟩
set_option maxRecDepth 100000 in
theorem dL_law__1414 : D mL_law_ 1414 (.iadd) 1 1415 := ⟨by decide +kernel, rfl⟩
set_option maxRecDepth 100000 in
theorem dL_law__1415 : D mL_law_ 1415 (.iaload) 1 1416 := ⟨by decide +kernel, rfl⟩
set_option maxRecDepth 100000 in
theorem dL_law__1416 : D mL_law_ 1416 (.aload_n 3) 1 1417 := ⟨by decide +kernel, rfl⟩
set_option maxRecDepth 100000 in
theorem dL_law__1417 : D mL_law_ 1417 (.invokestatic 201) 3 1420 := ⟨by decide +kernel, rfl⟩
set_option maxRecDepth 100000 in
theorem dL_law__1420 : D mL_law_ 1420 (.istore 5) 2 1422 := ⟨by decide +kernel, rfl⟩
set_option maxRecDepth 100000 in
theorem dL_law__1422 : D mL_law_ 1422 (.aload_n 2) 1 1423 := ⟨by decide +kernel, rfl⟩
set_option maxRecDepth 100000 in
theorem dL_law__1423 : D mL_law_ 1423 (.aload_n 0) 1 1424 := ⟨by decide +kernel, rfl⟩
set_option maxRecDepth 100000 in
theorem dL_law__1424 : D mL_law_ 1424 (.iload 4) 2 1426 := ⟨by decide +kernel, rfl⟩
set_option maxRecDepth 100000 in
theorem dL_law__1426 : D mL_law_ 1426 (.iconst 1) 1 1427 := ⟨by decide +kernel, rfl⟩
set_option maxRecDepth 100000 in
theorem dL_law__1427 : D mL_law_ 1427 (.iadd) 1 1428 := ⟨by decide +kernel, rfl⟩
set_option maxRecDepth 100000 in
theorem dL_law__1428 : D mL_law_ 1428 (.iaload) 1 1429 := ⟨by decide +kernel, rfl⟩
set_option maxRecDepth 100000 in
theorem dL_law__1429 : D mL_law_ 1429 (.aload_n 0) 1 1430 := ⟨by decide +kernel, rfl⟩
set_option maxRecDepth 100000 in
theorem dL_law__1430 : D mL_law_ 1430 (.iload 4) 2 1432 := ⟨by decide +kernel, rfl⟩
set_option maxRecDepth 100000 in
theorem dL_law__1432 : D mL_law_ 1432 (.iconst 2) 1 1433 := ⟨by decide +kernel, rfl⟩
set_option maxRecDepth 100000 in
theorem dL_law__1433 : D mL_law_ 1433 (.iadd) 1 1434 := ⟨by decide +kernel, rfl⟩
set_option maxRecDepth 100000 in
theorem dL_law__1434 : D mL_law_ 1434 (.iaload) 1 1435 := ⟨by decide +kernel, rfl⟩
set_option maxRecDepth 100000 in
theorem dL_law__1435 : D mL_law_ 1435 (.invokevirtual 203) 3 1438 := ⟨by decide +kernel, rfl⟩
set_option maxRecDepth 100000 in
theorem dL_law__1438 : D mL_law_ 1438 (.istore 6) 2 1440 := ⟨by decide +kernel, rfl⟩
set_option maxRecDepth 100000 in
theorem dL_law__1440 : D mL_law_ 1440 (.aload_n 2) 1 1441 := ⟨by decide +kernel, rfl⟩
set_option maxRecDepth 100000 in
theorem dL_law__1441 : D mL_law_ 1441 (.invokevirtual 146) 3 1444 := ⟨by decide +kernel, rfl⟩
set_option maxRecDepth 100000 in
theorem dL_law__1444 : D mL_law_ 1444 (.iload 5) 2 1446 := ⟨by decide +kernel, rfl⟩
set_option maxRecDepth 100000 in
theorem dL_law__1446 : DI mL_law_ 1446 (Instr.if_icmp .eq) 1449 1451 := ⟨5, by decide +kernel, rfl, rfl⟩
set_option maxRecDepth 100000 in
theorem dL_law__1449 : D mL_law_ 1449 (.iconst 0) 1 1450 := ⟨by decide +kernel, rfl⟩
set_option maxRecDepth 100000 in
theorem dL_law__1450 : D mL_law_ 1450 (.ireturn) 1 1451 := ⟨by decide +kernel, rfl⟩
set_option maxRecDepth 100000 in
theorem dL_law__1451 : D mL_law_ 1451 (.iload 5) 2 1453 := ⟨by decide +kernel, rfl⟩
set_option maxRecDepth 100000 in
theorem dL_law__1453 : DI mL_law_ 1453 (Instr.ifCond .ne) 1456 1468 := ⟨15, by decide +kernel, rfl, rfl⟩
set_option maxRecDepth 100000 in
theorem dL_law__1456 : D mL_law_ 1456 (.aload_n 3) 1 1457 := ⟨by decide +kernel, rfl⟩
set_option maxRecDepth 100000 in
theorem dL_law__1457 : D mL_law_ 1457 (.iconst 0) 1 1458 := ⟨by decide +kernel, rfl⟩
set_option maxRecDepth 100000 in
theorem dL_law__1458 : D mL_law_ 1458 (.laload) 1 1459 := ⟨by decide +kernel, rfl⟩
set_option maxRecDepth 100000 in
theorem dL_law__1459 : D mL_law_ 1459 (.iload 6) 2 1461 := ⟨by decide +kernel, rfl⟩
set_option maxRecDepth 100000 in
theorem dL_law__1461 : D mL_law_ 1461 (.i2l) 1 1462 := ⟨by decide +kernel, rfl⟩
set_option maxRecDepth 100000 in
theorem dL_law__1462 : D mL_law_ 1462 (.lcmp) 1 1463 := ⟨by decide +kernel, rfl⟩
set_option maxRecDepth 100000 in
theorem dL_law__1463 : DI mL_law_ 1463 (Instr.ifCond .eq) 1466 1468 := ⟨5, by decide +kernel, rfl, rfl⟩
set_option maxRecDepth 100000 in
theorem dL_law__1466 : D mL_law_ 1466 (.iconst 0) 1 1467 := ⟨by decide +kernel, rfl⟩
set_option maxRecDepth 100000 in
theorem dL_law__1467 : D mL_law_ 1467 (.ireturn) 1 1468 := ⟨by decide +kernel, rfl⟩
set_option maxRecDepth 100000 in
theorem dL_law__1468 : DI mL_law_ 1468 Instr.goto 1471 2859 := ⟨1391, by decide +kernel, rfl, rfl⟩
set_option maxRecDepth 100000 in
theorem dL_law__1471 : D mL_law_ 1471 (.aload_n 1) 1 1472 := ⟨by decide +kernel, rfl⟩
set_option maxRecDepth 100000 in
theorem dL_law__1472 : D mL_law_ 1472 (.aload_n 0) 1 1473 := ⟨by decide +kernel, rfl⟩
set_option maxRecDepth 100000 in
theorem dL_law__1473 : D mL_law_ 1473 (.iload 4) 2 1475 := ⟨by decide +kernel, rfl⟩
set_option maxRecDepth 100000 in
theorem dL_law__1475 : D mL_law_ 1475 (.iconst 1) 1 1476 := ⟨by decide +kernel, rfl⟩
set_option maxRecDepth 100000 in
theorem dL_law__1476 : D mL_law_ 1476 (.iadd) 1 1477 := ⟨by decide +kernel, rfl⟩
set_option maxRecDepth 100000 in
theorem dL_law__1477 : D mL_law_ 1477 (.iaload) 1 1478 := ⟨by decide +kernel, rfl⟩
set_option maxRecDepth 100000 in
theorem dL_law__1478 : D mL_law_ 1478 (.aload_n 3) 1 1479 := ⟨by decide +kernel, rfl⟩
set_option maxRecDepth 100000 in
theorem dL_law__1479 : D mL_law_ 1479 (.invokestatic 204) 3 1482 := ⟨by decide +kernel, rfl⟩
set_option maxRecDepth 100000 in
theorem dL_law__1482 : D mL_law_ 1482 (.istore 5) 2 1484 := ⟨by decide +kernel, rfl⟩
set_option maxRecDepth 100000 in
theorem dL_law__1484 : D mL_law_ 1484 (.aload_n 2) 1 1485 := ⟨by decide +kernel, rfl⟩
set_option maxRecDepth 100000 in
theorem dL_law__1485 : D mL_law_ 1485 (.aload_n 0) 1 1486 := ⟨by decide +kernel, rfl⟩
set_option maxRecDepth 100000 in
theorem dL_law__1486 : D mL_law_ 1486 (.iload 4) 2 1488 := ⟨by decide +kernel, rfl⟩
set_option maxRecDepth 100000 in
theorem dL_law__1488 : D mL_law_ 1488 (.iconst 1) 1 1489 := ⟨by decide +kernel, rfl⟩
set_option maxRecDepth 100000 in
theorem dL_law__1489 : D mL_law_ 1489 (.iadd) 1 1490 := ⟨by decide +kernel, rfl⟩
set_option maxRecDepth 100000 in
theorem dL_law__1490 : D mL_law_ 1490 (.iaload) 1 1491 := ⟨by decide +kernel, rfl⟩
set_option maxRecDepth 100000 in
theorem dL_law__1491 : D mL_law_ 1491 (.invokevirtual 206) 3 1494 := ⟨by decide +kernel, rfl⟩
set_option maxRecDepth 100000 in
theorem dL_law__1494 : D mL_law_ 1494 (.istore 6) 2 1496 := ⟨by decide +kernel, rfl⟩
set_option maxRecDepth 100000 in
theorem dL_law__1496 : D mL_law_ 1496 (.aload_n 2) 1 1497 := ⟨by decide +kernel, rfl⟩
set_option maxRecDepth 100000 in
theorem dL_law__1497 : D mL_law_ 1497 (.invokevirtual 146) 3 1500 := ⟨by decide +kernel, rfl⟩
set_option maxRecDepth 100000 in
theorem dL_law__1500 : D mL_law_ 1500 (.iload 5) 2 1502 := ⟨by decide +kernel, rfl⟩
set_option maxRecDepth 100000 in
theorem dL_law__1502 : DI mL_law_ 1502 (Instr.if_icmp .eq) 1505 1507 := ⟨5, by decide +kernel, rfl, rfl⟩
set_option maxRecDepth 100000 in
theorem dL_law__1505 : D mL_law_ 1505 (.iconst 0) 1 1506 := ⟨by decide +kernel, rfl⟩
set_option maxRecDepth 100000 in
theorem dL_law__1506 : D mL_law_ 1506 (.ireturn) 1 1507 := ⟨by decide +kernel, rfl⟩
set_option maxRecDepth 100000 in
theorem dL_law__1507 : D mL_law_ 1507 (.iload 5) 2 1509 := ⟨by decide +kernel, rfl⟩
set_option maxRecDepth 100000 in
theorem dL_law__1509 : DI mL_law_ 1509 (Instr.ifCond .ne) 1512 1531 := ⟨22, by decide +kernel, rfl, rfl⟩
set_option maxRecDepth 100000 in
theorem dL_law__1512 : D mL_law_ 1512 (.aload_n 3) 1 1513 := ⟨by decide +kernel, rfl⟩
set_option maxRecDepth 100000 in
theorem dL_law__1513 : D mL_law_ 1513 (.iconst 0) 1 1514 := ⟨by decide +kernel, rfl⟩
set_option maxRecDepth 100000 in
theorem dL_law__1514 : D mL_law_ 1514 (.laload) 1 1515 := ⟨by decide +kernel, rfl⟩
set_option maxRecDepth 100000 in
theorem dL_law__1515 : D mL_law_ 1515 (.iload 6) 2 1517 := ⟨by decide +kernel, rfl⟩
set_option maxRecDepth 100000 in
theorem dL_law__1517 : DI mL_law_ 1517 (Instr.ifCond .eq) 1520 1524 := ⟨7, by decide +kernel, rfl, rfl⟩
set_option maxRecDepth 100000 in
theorem dL_law__1520 : D mL_law_ 1520 (.lconst 1) 1 1521 := ⟨by decide +kernel, rfl⟩
set_option maxRecDepth 100000 in
theorem dL_law__1521 : DI mL_law_ 1521 Instr.goto 1524 1525 := ⟨4, by decide +kernel, rfl, rfl⟩
set_option maxRecDepth 100000 in
theorem dL_law__1524 : D mL_law_ 1524 (.lconst 0) 1 1525 := ⟨by decide +kernel, rfl⟩
set_option maxRecDepth 100000 in
theorem dL_law__1525 : D mL_law_ 1525 (.lcmp) 1 1526 := ⟨by decide +kernel, rfl⟩
set_option maxRecDepth 100000 in
theorem dL_law__1526 : DI mL_law_ 1526 (Instr.ifCond .eq) 1529 1531 := ⟨5, by decide +kernel, rfl, rfl⟩
set_option maxRecDepth 100000 in
theorem dL_law__1529 : D mL_law_ 1529 (.iconst 0) 1 1530 := ⟨by decide +kernel, rfl⟩
set_option maxRecDepth 100000 in
theorem dL_law__1530 : D mL_law_ 1530 (.ireturn) 1 1531 := ⟨by decide +kernel, rfl⟩
set_option maxRecDepth 100000 in
theorem dL_law__1531 : DI mL_law_ 1531 Instr.goto 1534 2859 := ⟨1328, by decide +kernel, rfl, rfl⟩
set_option maxRecDepth 100000 in
theorem dL_law__1534 : D mL_law_ 1534 (.aload_n 1) 1 1535 := ⟨by decide +kernel, rfl⟩
set_option maxRecDepth 100000 in
theorem dL_law__1535 : D mL_law_ 1535 (.aload_n 0) 1 1536 := ⟨by decide +kernel, rfl⟩
set_option maxRecDepth 100000 in
theorem dL_law__1536 : D mL_law_ 1536 (.iload 4) 2 1538 := ⟨by decide +kernel, rfl⟩
set_option maxRecDepth 100000 in
theorem dL_law__1538 : D mL_law_ 1538 (.iconst 1) 1 1539 := ⟨by decide +kernel, rfl⟩
set_option maxRecDepth 100000 in
theorem dL_law__1539 : D mL_law_ 1539 (.iadd) 1 1540 := ⟨by decide +kernel, rfl⟩
set_option maxRecDepth 100000 in
theorem dL_law__1540 : D mL_law_ 1540 (.iaload) 1 1541 := ⟨by decide +kernel, rfl⟩
set_option maxRecDepth 100000 in
theorem dL_law__1541 : DI mL_law_ 1541 (Instr.ifCond .eq) 1544 1548 := ⟨7, by decide +kernel, rfl, rfl⟩
set_option maxRecDepth 100000 in
theorem dL_law__1544 : D mL_law_ 1544 (.iconst 1) 1 1545 := ⟨by decide +kernel, rfl⟩
set_option maxRecDepth 100000 in
theorem dL_law__1545 : DI mL_law_ 1545 Instr.goto 1548 1549 := ⟨4, by decide +kernel, rfl, rfl⟩
set_option maxRecDepth 100000 in
theorem dL_law__1548 : D mL_law_ 1548 (.iconst 0) 1 1549 := ⟨by decide +kernel, rfl⟩
set_option maxRecDepth 100000 in
theorem dL_law__1549 : D mL_law_ 1549 (.invokevirtual 207) 3 1552 := ⟨by decide +kernel, rfl⟩
set_option maxRecDepth 100000 in
theorem dL_law__1552 : D mL_law_ 1552 (.aload_n 2) 1 1553 := ⟨by decide +kernel, rfl⟩
set_option maxRecDepth 100000 in
theorem dL_law__1553 : D mL_law_ 1553 (.aload_n 0) 1 1554 := ⟨by decide +kernel, rfl⟩
set_option maxRecDepth 100000 in
theorem dL_law__1554 : D mL_law_ 1554 (.iload 4) 2 1556 := ⟨by decide +kernel, rfl⟩
set_option maxRecDepth 100000 in
theorem dL_law__1556 : D mL_law_ 1556 (.iconst 1) 1 1557 := ⟨by decide +kernel, rfl⟩
set_option maxRecDepth 100000 in
theorem dL_law__1557 : D mL_law_ 1557 (.iadd) 1 1558 := ⟨by decide +kernel, rfl⟩
set_option maxRecDepth 100000 in
theorem dL_law__1558 : D mL_law_ 1558 (.iaload) 1 1559 := ⟨by decide +kernel, rfl⟩
set_option maxRecDepth 100000 in
theorem dL_law__1559 : DI mL_law_ 1559 (Instr.ifCond .eq) 1562 1566 := ⟨7, by decide +kernel, rfl, rfl⟩
set_option maxRecDepth 100000 in
theorem dL_law__1562 : D mL_law_ 1562 (.iconst 1) 1 1563 := ⟨by decide +kernel, rfl⟩
set_option maxRecDepth 100000 in
theorem dL_law__1563 : DI mL_law_ 1563 Instr.goto 1566 1567 := ⟨4, by decide +kernel, rfl, rfl⟩
set_option maxRecDepth 100000 in
theorem dL_law__1566 : D mL_law_ 1566 (.iconst 0) 1 1567 := ⟨by decide +kernel, rfl⟩
set_option maxRecDepth 100000 in
theorem dL_law__1567 : D mL_law_ 1567 (.invokevirtual 211) 3 1570 := ⟨by decide +kernel, rfl⟩
set_option maxRecDepth 100000 in
theorem dL_law__1570 : DI mL_law_ 1570 (Instr.if_icmp .eq) 1573 2859 := ⟨1289, by decide +kernel, rfl, rfl⟩
set_option maxRecDepth 100000 in
theorem dL_law__1573 : D mL_law_ 1573 (.iconst 0) 1 1574 := ⟨by decide +kernel, rfl⟩
set_option maxRecDepth 100000 in
theorem dL_law__1574 : D mL_law_ 1574 (.ireturn) 1 1575 := ⟨by decide +kernel, rfl⟩
set_option maxRecDepth 100000 in
theorem dL_law__1575 : D mL_law_ 1575 (.aload_n 1) 1 1576 := ⟨by decide +kernel, rfl⟩
set_option maxRecDepth 100000 in
theorem dL_law__1576 : D mL_law_ 1576 (.invokevirtual 212) 3 1579 := ⟨by decide +kernel, rfl⟩
set_option maxRecDepth 100000 in
theorem dL_law__1579 : D mL_law_ 1579 (.aload_n 2) 1 1580 := ⟨by decide +kernel, rfl⟩
set_option maxRecDepth 100000 in
theorem dL_law__1580 : D mL_law_ 1580 (.invokevirtual 215) 3 1583 := ⟨by decide +kernel, rfl⟩
set_option maxRecDepth 100000 in
theorem dL_law__1583 : DI mL_law_ 1583 (Instr.if_icmp .eq) 1586 2859 := ⟨1276, by decide +kernel, rfl, rfl⟩
set_option maxRecDepth 100000 in
theorem dL_law__1586 : D mL_law_ 1586 (.iconst 0) 1 1587 := ⟨by decide +kernel, rfl⟩
set_option maxRecDepth 100000 in
theorem dL_law__1587 : D mL_law_ 1587 (.ireturn) 1 1588 := ⟨by decide +kernel, rfl⟩
set_option maxRecDepth 100000 in
theorem dL_law__1588 : D mL_law_ 1588 (.aload_n 1) 1 1589 := ⟨by decide +kernel, rfl⟩
set_option maxRecDepth 100000 in
theorem dL_law__1589 : D mL_law_ 1589 (.aload_n 0) 1 1590 := ⟨by decide +kernel, rfl⟩
set_option maxRecDepth 100000 in
theorem dL_law__1590 : D mL_law_ 1590 (.iload 4) 2 1592 := ⟨by decide +kernel, rfl⟩
set_option maxRecDepth 100000 in
theorem dL_law__1592 : D mL_law_ 1592 (.iconst 1) 1 1593 := ⟨by decide +kernel, rfl⟩
set_option maxRecDepth 100000 in
theorem dL_law__1593 : D mL_law_ 1593 (.iadd) 1 1594 := ⟨by decide +kernel, rfl⟩
set_option maxRecDepth 100000 in
theorem dL_law__1594 : D mL_law_ 1594 (.iaload) 1 1595 := ⟨by decide +kernel, rfl⟩
set_option maxRecDepth 100000 in
theorem dL_law__1595 : D mL_law_ 1595 (.aload_n 3) 1 1596 := ⟨by decide +kernel, rfl⟩
set_option maxRecDepth 100000 in
theorem dL_law__1596 : D mL_law_ 1596 (.invokestatic 216) 3 1599 := ⟨by decide +kernel, rfl⟩
set_option maxRecDepth 100000 in
theorem dL_law__1599 : D mL_law_ 1599 (.istore 5) 2 1601 := ⟨by decide +kernel, rfl⟩
set_option maxRecDepth 100000 in
theorem dL_law__1601 : D mL_law_ 1601 (.aload_n 2) 1 1602 := ⟨by decide +kernel, rfl⟩
set_option maxRecDepth 100000 in
theorem dL_law__1602 : D mL_law_ 1602 (.aload_n 0) 1 1603 := ⟨by decide +kernel, rfl⟩
set_option maxRecDepth 100000 in
theorem dL_law__1603 : D mL_law_ 1603 (.iload 4) 2 1605 := ⟨by decide +kernel, rfl⟩
set_option maxRecDepth 100000 in
theorem dL_law__1605 : D mL_law_ 1605 (.iconst 1) 1 1606 := ⟨by decide +kernel, rfl⟩
set_option maxRecDepth 100000 in
theorem dL_law__1606 : D mL_law_ 1606 (.iadd) 1 1607 := ⟨by decide +kernel, rfl⟩
set_option maxRecDepth 100000 in
theorem dL_law__1607 : D mL_law_ 1607 (.iaload) 1 1608 := ⟨by decide +kernel, rfl⟩
set_option maxRecDepth 100000 in
theorem dL_law__1608 : D mL_law_ 1608 (.invokevirtual 218) 3 1611 := ⟨by decide +kernel, rfl⟩
set_option maxRecDepth 100000 in
theorem dL_law__1611 : D mL_law_ 1611 (.istore 6) 2 1613 := ⟨by decide +kernel, rfl⟩
set_option maxRecDepth 100000 in
theorem dL_law__1613 : D mL_law_ 1613 (.aload_n 2) 1 1614 := ⟨by decide +kernel, rfl⟩
set_option maxRecDepth 100000 in
theorem dL_law__1614 : D mL_law_ 1614 (.invokevirtual 146) 3 1617 := ⟨by decide +kernel, rfl⟩
set_option maxRecDepth 100000 in
theorem dL_law__1617 : D mL_law_ 1617 (.iload 5) 2 1619 := ⟨by decide +kernel, rfl⟩
set_option maxRecDepth 100000 in
theorem dL_law__1619 : DI mL_law_ 1619 (Instr.if_icmp .eq) 1622 1624 := ⟨5, by decide +kernel, rfl, rfl⟩
set_option maxRecDepth 100000 in
theorem dL_law__1622 : D mL_law_ 1622 (.iconst 0) 1 1623 := ⟨by decide +kernel, rfl⟩
set_option maxRecDepth 100000 in
theorem dL_law__1623 : D mL_law_ 1623 (.ireturn) 1 1624 := ⟨by decide +kernel, rfl⟩
set_option maxRecDepth 100000 in
theorem dL_law__1624 : D mL_law_ 1624 (.iload 5) 2 1626 := ⟨by decide +kernel, rfl⟩
set_option maxRecDepth 100000 in
theorem dL_law__1626 : DI mL_law_ 1626 (Instr.ifCond .ne) 1629 1641 := ⟨15, by decide +kernel, rfl, rfl⟩
set_option maxRecDepth 100000 in
theorem dL_law__1629 : D mL_law_ 1629 (.aload_n 3) 1 1630 := ⟨by decide +kernel, rfl⟩
set_option maxRecDepth 100000 in
theorem dL_law__1630 : D mL_law_ 1630 (.iconst 0) 1 1631 := ⟨by decide +kernel, rfl⟩
set_option maxRecDepth 100000 in
theorem dL_law__1631 : D mL_law_ 1631 (.laload) 1 1632 := ⟨by decide +kernel, rfl⟩
set_option maxRecDepth 100000 in
theorem dL_law__1632 : D mL_law_ 1632 (.iload 6) 2 1634 := ⟨by decide +kernel, rfl⟩
set_option maxRecDepth 100000 in
theorem dL_law__1634 : D mL_law_ 1634 (.i2l) 1 1635 := ⟨by decide +kernel, rfl⟩
set_option maxRecDepth 100000 in
theorem dL_law__1635 : D mL_law_ 1635 (.lcmp) 1 1636 := ⟨by decide +kernel, rfl⟩
set_option maxRecDepth 100000 in
theorem dL_law__1636 : DI mL_law_ 1636 (Instr.ifCond .eq) 1639 1641 := ⟨5, by decide +kernel, rfl, rfl⟩
set_option maxRecDepth 100000 in
theorem dL_law__1639 : D mL_law_ 1639 (.iconst 0) 1 1640 := ⟨by decide +kernel, rfl⟩
set_option maxRecDepth 100000 in
theorem dL_law__1640 : D mL_law_ 1640 (.ireturn) 1 1641 := ⟨by decide +kernel, rfl⟩
set_option maxRecDepth 100000 in
theorem dL_law__1641 : DI mL_law_ 1641 Instr.goto 1644 2859 := ⟨1218, by decide +kernel, rfl, rfl⟩
set_option maxRecDepth 100000 in
theorem dL_law__1644 : D mL_law_ 1644 (.aload_n 1) 1 1645 := ⟨by decide +kernel, rfl⟩
set_option maxRecDepth 100000 in
theorem dL_law__1645 : D mL_law_ 1645 (.invokevirtual 219) 3 1648 := ⟨by decide +kernel, rfl⟩
set_option maxRecDepth 100000 in
theorem dL_law__1648 : D mL_law_ 1648 (.aload_n 2) 1 1649 := ⟨by decide +kernel, rfl⟩
set_option maxRecDepth 100000 in
theorem dL_law__1649 : D mL_law_ 1649 (.invokevirtual 222) 3 1652 := ⟨by decide +kernel, rfl⟩
set_option maxRecDepth 100000 in
theorem dL_law__1652 : DI mL_law_ 1652 (Instr.if_icmp .eq) 1655 2859 := ⟨1207, by decide +kernel, rfl, rfl⟩
set_option maxRecDepth 100000 in
theorem dL_law__1655 : D mL_law_ 1655 (.iconst 0) 1 1656 := ⟨by decide +kernel, rfl⟩
set_option maxRecDepth 100000 in
theorem dL_law__1656 : D mL_law_ 1656 (.ireturn) 1 1657 := ⟨by decide +kernel, rfl⟩
set_option maxRecDepth 100000 in
theorem dL_law__1657 : D mL_law_ 1657 (.aload_n 1) 1 1658 := ⟨by decide +kernel, rfl⟩
set_option maxRecDepth 100000 in
theorem dL_law__1658 : D mL_law_ 1658 (.invokevirtual 223) 3 1661 := ⟨by decide +kernel, rfl⟩
set_option maxRecDepth 100000 in
theorem dL_law__1661 : D mL_law_ 1661 (.aload_n 2) 1 1662 := ⟨by decide +kernel, rfl⟩
set_option maxRecDepth 100000 in
theorem dL_law__1662 : D mL_law_ 1662 (.invokevirtual 226) 3 1665 := ⟨by decide +kernel, rfl⟩
set_option maxRecDepth 100000 in
theorem dL_law__1665 : DI mL_law_ 1665 (Instr.if_icmp .eq) 1668 2859 := ⟨1194, by decide +kernel, rfl, rfl⟩
set_option maxRecDepth 100000 in
theorem dL_law__1668 : D mL_law_ 1668 (.iconst 0) 1 1669 := ⟨by decide +kernel, rfl⟩
set_option maxRecDepth 100000 in
theorem dL_law__1669 : D mL_law_ 1669 (.ireturn) 1 1670 := ⟨by decide +kernel, rfl⟩
set_option maxRecDepth 100000 in
theorem dL_law__1670 : D mL_law_ 1670 (.aload_n 1) 1 1671 := ⟨by decide +kernel, rfl⟩
set_option maxRecDepth 100000 in
theorem dL_law__1671 : D mL_law_ 1671 (.invokevirtual 227) 3 1674 := ⟨by decide +kernel, rfl⟩
set_option maxRecDepth 100000 in
theorem dL_law__1674 : D mL_law_ 1674 (.aload_n 2) 1 1675 := ⟨by decide +kernel, rfl⟩
set_option maxRecDepth 100000 in
theorem dL_law__1675 : D mL_law_ 1675 (.invokevirtual 230) 3 1678 := ⟨by decide +kernel, rfl⟩
set_option maxRecDepth 100000 in
theorem dL_law__1678 : DI mL_law_ 1678 (Instr.if_icmp .eq) 1681 2859 := ⟨1181, by decide +kernel, rfl, rfl⟩
set_option maxRecDepth 100000 in
theorem dL_law__1681 : D mL_law_ 1681 (.iconst 0) 1 1682 := ⟨by decide +kernel, rfl⟩
set_option maxRecDepth 100000 in
theorem dL_law__1682 : D mL_law_ 1682 (.ireturn) 1 1683 := ⟨by decide +kernel, rfl⟩
set_option maxRecDepth 100000 in
theorem dL_law__1683 : D mL_law_ 1683 (.aload_n 1) 1 1684 := ⟨by decide +kernel, rfl⟩
set_option maxRecDepth 100000 in
theorem dL_law__1684 : D mL_law_ 1684 (.aload_n 0) 1 1685 := ⟨by decide +kernel, rfl⟩
set_option maxRecDepth 100000 in
theorem dL_law__1685 : D mL_law_ 1685 (.iload 4) 2 1687 := ⟨by decide +kernel, rfl⟩
set_option maxRecDepth 100000 in
theorem dL_law__1687 : D mL_law_ 1687 (.iconst 1) 1 1688 := ⟨by decide +kernel, rfl⟩
set_option maxRecDepth 100000 in
theorem dL_law__1688 : D mL_law_ 1688 (.iadd) 1 1689 := ⟨by decide +kernel, rfl⟩
set_option maxRecDepth 100000 in
theorem dL_law__1689 : D mL_law_ 1689 (.iaload) 1 1690 := ⟨by decide +kernel, rfl⟩
set_option maxRecDepth 100000 in
theorem dL_law__1690 : D mL_law_ 1690 (.aload_n 0) 1 1691 := ⟨by decide +kernel, rfl⟩
set_option maxRecDepth 100000 in
theorem dL_law__1691 : D mL_law_ 1691 (.iload 4) 2 1693 := ⟨by decide +kernel, rfl⟩
set_option maxRecDepth 100000 in
theorem dL_law__1693 : D mL_law_ 1693 (.iconst 2) 1 1694 := ⟨by decide +kernel, rfl⟩
set_option maxRecDepth 100000 in
theorem dL_law__1694 : D mL_law_ 1694 (.iadd) 1 1695 := ⟨by decide +kernel, rfl⟩
set_option maxRecDepth 100000 in
theorem dL_law__1695 : D mL_law_ 1695 (.iaload) 1 1696 := ⟨by decide +kernel, rfl⟩
set_option maxRecDepth 100000 in
theorem dL_law__1696 : DI mL_law_ 1696 (Instr.ifCond .eq) 1699 1703 := ⟨7, by decide +kernel, rfl, rfl⟩
set_option maxRecDepth 100000 in
theorem dL_law__1699 : D mL_law_ 1699 (.iconst 1) 1 1700 := ⟨by decide +kernel, rfl⟩
set_option maxRecDepth 100000 in
theorem dL_law__1700 : DI mL_law_ 1700 Instr.goto 1703 1704 := ⟨4, by decide +kernel, rfl, rfl⟩
set_option maxRecDepth 100000 in
theorem dL_law__1703 : D mL_law_ 1703 (.iconst 0) 1 1704 := ⟨by decide +kernel, rfl⟩
set_option maxRecDepth 100000 in
theorem dL_law__1704 : D mL_law_ 1704 (.aload_n 3) 1 1705 := ⟨by decide +kernel, rfl⟩
set_option maxRecDepth 100000 in
theorem dL_law__1705 : D mL_law_ 1705 (.invokestatic 231) 3 1708 := ⟨by decide +kernel, rfl⟩
set_option maxRecDepth 100000 in
theorem dL_law__1708 : D mL_law_ 1708 (.istore 5) 2 1710 := ⟨by decide +kernel, rfl⟩
set_option maxRecDepth 100000 in
theorem dL_law__1710 : D mL_law_ 1710 (.aload_n 2) 1 1711 := ⟨by decide +kernel, rfl⟩
set_option maxRecDepth 100000 in
theorem dL_law__1711 : D mL_law_ 1711 (.aload_n 0) 1 1712 := ⟨by decide +kernel, rfl⟩
set_option maxRecDepth 100000 in
theorem dL_law__1712 : D mL_law_ 1712 (.iload 4) 2 1714 := ⟨by decide +kernel, rfl⟩
set_option maxRecDepth 100000 in
theorem dL_law__1714 : D mL_law_ 1714 (.iconst 1) 1 1715 := ⟨by decide +kernel, rfl⟩
set_option maxRecDepth 100000 in
theorem dL_law__1715 : D mL_law_ 1715 (.iadd) 1 1716 := ⟨by decide +kernel, rfl⟩
set_option maxRecDepth 100000 in
theorem dL_law__1716 : D mL_law_ 1716 (.iaload) 1 1717 := ⟨by decide +kernel, rfl⟩
set_option maxRecDepth 100000 in
theorem dL_law__1717 : D mL_law_ 1717 (.aload_n 0) 1 1718 := ⟨by decide +kernel, rfl⟩
set_option maxRecDepth 100000 in
theorem dL_law__1718 : D mL_law_ 1718 (.iload 4) 2 1720 := ⟨by decide +kernel, rfl⟩
set_option maxRecDepth 100000 in
theorem dL_law__1720 : D mL_law_ 1720 (.iconst 2) 1 1721 := ⟨by decide +kernel, rfl⟩
set_option maxRecDepth 100000 in
theorem dL_law__1721 : D mL_law_ 1721 (.iadd) 1 1722 := ⟨by decide +kernel, rfl⟩
set_option maxRecDepth 100000 in
theorem dL_law__1722 : D mL_law_ 1722 (.iaload) 1 1723 := ⟨by decide +kernel, rfl⟩
set_option maxRecDepth 100000 in
theorem dL_law__1723 : DI mL_law_ 1723 (Instr.ifCond .eq) 1726 1730 := ⟨7, by decide +kernel, rfl, rfl⟩
set_option maxRecDepth 100000 in
theorem dL_law__1726 : D mL_law_ 1726 (.iconst 1) 1 1727 := ⟨by decide +kernel, rfl⟩
set_option maxRecDepth 100000 in
theorem dL_law__1727 : DI mL_law_ 1727 Instr.goto 1730 1731 := ⟨4, by decide +kernel, rfl, rfl⟩
set_option maxRecDepth 100000 in
theorem dL_law__1730 : D mL_law_ 1730 (.iconst 0) 1 1731 := ⟨by decide +kernel, rfl⟩
set_option maxRecDepth 100000 in
theorem dL_law__1731 : D mL_law_ 1731 (.invokevirtual 234) 3 1734 := ⟨by decide +kernel, rfl⟩
set_option maxRecDepth 100000 in
theorem dL_law__1734 : D mL_law_ 1734 (.istore 6) 2 1736 := ⟨by decide +kernel, rfl⟩
set_option maxRecDepth 100000 in
theorem dL_law__1736 : D mL_law_ 1736 (.aload_n 2) 1 1737 := ⟨by decide +kernel, rfl⟩
set_option maxRecDepth 100000 in
theorem dL_law__1737 : D mL_law_ 1737 (.invokevirtual 146) 3 1740 := ⟨by decide +kernel, rfl⟩
set_option maxRecDepth 100000 in
theorem dL_law__1740 : D mL_law_ 1740 (.iload 5) 2 1742 := ⟨by decide +kernel, rfl⟩
set_option maxRecDepth 100000 in
theorem dL_law__1742 : DI mL_law_ 1742 (Instr.if_icmp .eq) 1745 1747 := ⟨5, by decide +kernel, rfl, rfl⟩
set_option maxRecDepth 100000 in
theorem dL_law__1745 : D mL_law_ 1745 (.iconst 0) 1 1746 := ⟨by decide +kernel, rfl⟩
set_option maxRecDepth 100000 in
theorem dL_law__1746 : D mL_law_ 1746 (.ireturn) 1 1747 := ⟨by decide +kernel, rfl⟩
set_option maxRecDepth 100000 in
theorem dL_law__1747 : D mL_law_ 1747 (.iload 5) 2 1749 := ⟨by decide +kernel, rfl⟩
set_option maxRecDepth 100000 in
theorem dL_law__1749 : DI mL_law_ 1749 (Instr.ifCond .ne) 1752 1764 := ⟨15, by decide +kernel, rfl, rfl⟩
set_option maxRecDepth 100000 in
theorem dL_law__1752 : D mL_law_ 1752 (.aload_n 3) 1 1753 := ⟨by decide +kernel, rfl⟩
set_option maxRecDepth 100000 in
theorem dL_law__1753 : D mL_law_ 1753 (.iconst 0) 1 1754 := ⟨by decide +kernel, rfl⟩
set_option maxRecDepth 100000 in
theorem dL_law__1754 : D mL_law_ 1754 (.laload) 1 1755 := ⟨by decide +kernel, rfl⟩
set_option maxRecDepth 100000 in
theorem dL_law__1755 : D mL_law_ 1755 (.iload 6) 2 1757 := ⟨by decide +kernel, rfl⟩
set_option maxRecDepth 100000 in
theorem dL_law__1757 : D mL_law_ 1757 (.i2l) 1 1758 := ⟨by decide +kernel, rfl⟩
set_option maxRecDepth 100000 in
theorem dL_law__1758 : D mL_law_ 1758 (.lcmp) 1 1759 := ⟨by decide +kernel, rfl⟩
set_option maxRecDepth 100000 in
theorem dL_law__1759 : DI mL_law_ 1759 (Instr.ifCond .eq) 1762 1764 := ⟨5, by decide +kernel, rfl, rfl⟩
set_option maxRecDepth 100000 in
theorem dL_law__1762 : D mL_law_ 1762 (.iconst 0) 1 1763 := ⟨by decide +kernel, rfl⟩
set_option maxRecDepth 100000 in
theorem dL_law__1763 : D mL_law_ 1763 (.ireturn) 1 1764 := ⟨by decide +kernel, rfl⟩
set_option maxRecDepth 100000 in
theorem dL_law__1764 : DI mL_law_ 1764 Instr.goto 1767 2859 := ⟨1095, by decide +kernel, rfl, rfl⟩
set_option maxRecDepth 100000 in
theorem dL_law__1767 : D mL_law_ 1767 (.aload_n 1) 1 1768 := ⟨by decide +kernel, rfl⟩
set_option maxRecDepth 100000 in
theorem dL_law__1768 : D mL_law_ 1768 (.aload_n 0) 1 1769 := ⟨by decide +kernel, rfl⟩
set_option maxRecDepth 100000 in
theorem dL_law__1769 : D mL_law_ 1769 (.iload 4) 2 1771 := ⟨by decide +kernel, rfl⟩
set_option maxRecDepth 100000 in
theorem dL_law__1771 : D mL_law_ 1771 (.iconst 1) 1 1772 := ⟨by decide +kernel, rfl⟩
set_option maxRecDepth 100000 in
theorem dL_law__1772 : D mL_law_ 1772 (.iadd) 1 1773 := ⟨by decide +kernel, rfl⟩
set_option maxRecDepth 100000 in
theorem dL_law__1773 : D mL_law_ 1773 (.iaload) 1 1774 := ⟨by decide +kernel, rfl⟩
set_option maxRecDepth 100000 in
theorem dL_law__1774 : D mL_law_ 1774 (.aload_n 3) 1 1775 := ⟨by decide +kernel, rfl⟩
set_option maxRecDepth 100000 in
theorem dL_law__1775 : D mL_law_ 1775 (.invokestatic 235) 3 1778 := ⟨by decide +kernel, rfl⟩
set_option maxRecDepth 100000 in
theorem dL_law__1778 : D mL_law_ 1778 (.istore 5) 2 1780 := ⟨by decide +kernel, rfl⟩
set_option maxRecDepth 100000 in
theorem dL_law__1780 : D mL_law_ 1780 (.aload_n 2) 1 1781 := ⟨by decide +kernel, rfl⟩
set_option maxRecDepth 100000 in
theorem dL_law__1781 : D mL_law_ 1781 (.aload_n 0) 1 1782 := ⟨by decide +kernel, rfl⟩
set_option maxRecDepth 100000 in
theorem dL_law__1782 : D mL_law_ 1782 (.iload 4) 2 1784 := ⟨by decide +kernel, rfl⟩
set_option maxRecDepth 100000 in
theorem dL_law__1784 : D mL_law_ 1784 (.iconst 1) 1 1785 := ⟨by decide +kernel, rfl⟩
set_option maxRecDepth 100000 in
theorem dL_law__1785 : D mL_law_ 1785 (.iadd) 1 1786 := ⟨by decide +kernel, rfl⟩
set_option maxRecDepth 100000 in
theorem dL_law__1786 : D mL_law_ 1786 (.iaload) 1 1787 := ⟨by decide +kernel, rfl⟩
set_option maxRecDepth 100000 in
theorem dL_law__1787 : D mL_law_ 1787 (.invokevirtual 237) 3 1790 := ⟨by decide +kernel, rfl⟩
set_option maxRecDepth 100000 in
theorem dL_law__1790 : D mL_law_ 1790 (.istore 6) 2 1792 := ⟨by decide +kernel, rfl⟩
set_option maxRecDepth 100000 in
theorem dL_law__1792 : D mL_law_ 1792 (.aload_n 2) 1 1793 := ⟨by decide +kernel, rfl⟩
set_option maxRecDepth 100000 in
theorem dL_law__1793 : D mL_law_ 1793 (.invokevirtual 146) 3 1796 := ⟨by decide +kernel, rfl⟩
set_option maxRecDepth 100000 in
theorem dL_law__1796 : D mL_law_ 1796 (.iload 5) 2 1798 := ⟨by decide +kernel, rfl⟩
set_option maxRecDepth 100000 in
theorem dL_law__1798 : DI mL_law_ 1798 (Instr.if_icmp .eq) 1801 1803 := ⟨5, by decide +kernel, rfl, rfl⟩
set_option maxRecDepth 100000 in
theorem dL_law__1801 : D mL_law_ 1801 (.iconst 0) 1 1802 := ⟨by decide +kernel, rfl⟩
set_option maxRecDepth 100000 in
theorem dL_law__1802 : D mL_law_ 1802 (.ireturn) 1 1803 := ⟨by decide +kernel, rfl⟩
set_option maxRecDepth 100000 in
theorem dL_law__1803 : D mL_law_ 1803 (.iload 5) 2 1805 := ⟨by decide +kernel, rfl⟩
set_option maxRecDepth 100000 in
theorem dL_law__1805 : DI mL_law_ 1805 (Instr.ifCond .ne) 1808 1820 := ⟨15, by decide +kernel, rfl, rfl⟩
set_option maxRecDepth 100000 in
theorem dL_law__1808 : D mL_law_ 1808 (.aload_n 3) 1 1809 := ⟨by decide +kernel, rfl⟩
set_option maxRecDepth 100000 in
theorem dL_law__1809 : D mL_law_ 1809 (.iconst 0) 1 1810 := ⟨by decide +kernel, rfl⟩
set_option maxRecDepth 100000 in
theorem dL_law__1810 : D mL_law_ 1810 (.laload) 1 1811 := ⟨by decide +kernel, rfl⟩
set_option maxRecDepth 100000 in
theorem dL_law__1811 : D mL_law_ 1811 (.iload 6) 2 1813 := ⟨by decide +kernel, rfl⟩
set_option maxRecDepth 100000 in
theorem dL_law__1813 : D mL_law_ 1813 (.i2l) 1 1814 := ⟨by decide +kernel, rfl⟩
set_option maxRecDepth 100000 in
theorem dL_law__1814 : D mL_law_ 1814 (.lcmp) 1 1815 := ⟨by decide +kernel, rfl⟩
set_option maxRecDepth 100000 in
theorem dL_law__1815 : DI mL_law_ 1815 (Instr.ifCond .eq) 1818 1820 := ⟨5, by decide +kernel, rfl, rfl⟩
set_option maxRecDepth 100000 in
theorem dL_law__1818 : D mL_law_ 1818 (.iconst 0) 1 1819 := ⟨by decide +kernel, rfl⟩
set_option maxRecDepth 100000 in
theorem dL_law__1819 : D mL_law_ 1819 (.ireturn) 1 1820 := ⟨by decide +kernel, rfl⟩
set_option maxRecDepth 100000 in
theorem dL_law__1820 : DI mL_law_ 1820 Instr.goto 1823 2859 := ⟨1039, by decide +kernel, rfl, rfl⟩
set_option maxRecDepth 100000 in
theorem dL_law__1823 : D mL_law_ 1823 (.aload_n 1) 1 1824 := ⟨by decide +kernel, rfl⟩
set_option maxRecDepth 100000 in
theorem dL_law__1824 : D mL_law_ 1824 (.aload_n 0) 1 1825 := ⟨by decide +kernel, rfl⟩
set_option maxRecDepth 100000 in
theorem dL_law__1825 : D mL_law_ 1825 (.iload 4) 2 1827 := ⟨by decide +kernel, rfl⟩
set_option maxRecDepth 100000 in
theorem dL_law__1827 : D mL_law_ 1827 (.iconst 1) 1 1828 := ⟨by decide +kernel, rfl⟩
set_option maxRecDepth 100000 in
theorem dL_law__1828 : D mL_law_ 1828 (.iadd) 1 1829 := ⟨by decide +kernel, rfl⟩
set_option maxRecDepth 100000 in
theorem dL_law__1829 : D mL_law_ 1829 (.iaload) 1 1830 := ⟨by decide +kernel, rfl⟩
set_option maxRecDepth 100000 in
theorem dL_law__1830 : D mL_law_ 1830 (.aload_n 0) 1 1831 := ⟨by decide +kernel, rfl⟩
set_option maxRecDepth 100000 in
theorem dL_law__1831 : D mL_law_ 1831 (.iload 4) 2 1833 := ⟨by decide +kernel, rfl⟩
set_option maxRecDepth 100000 in
theorem dL_law__1833 : D mL_law_ 1833 (.iconst 2) 1 1834 := ⟨by decide +kernel, rfl⟩
set_option maxRecDepth 100000 in
theorem dL_law__1834 : D mL_law_ 1834 (.iadd) 1 1835 := ⟨by decide +kernel, rfl⟩
set_option maxRecDepth 100000 in
theorem dL_law__1835 : D mL_law_ 1835 (.iaload) 1 1836 := ⟨by decide +kernel, rfl⟩
set_option maxRecDepth 100000 in
theorem dL_law__1836 : D mL_law_ 1836 (.aload_n 3) 1 1837 := ⟨by decide +kernel, rfl⟩
set_option maxRecDepth 100000 in
theorem dL_law__1837 : D mL_law_ 1837 (.invokestatic 238) 3 1840 := ⟨by decide +kernel, rfl⟩
set_option maxRecDepth 100000 in
theorem dL_law__1840 : D mL_law_ 1840 (.istore 5) 2 1842 := ⟨by decide +kernel, rfl⟩
set_option maxRecDepth 100000 in
theorem dL_law__1842 : D mL_law_ 1842 (.aload_n 2) 1 1843 := ⟨by decide +kernel, rfl⟩
set_option maxRecDepth 100000 in
theorem dL_law__1843 : D mL_law_ 1843 (.aload_n 0) 1 1844 := ⟨by decide +kernel, rfl⟩
set_option maxRecDepth 100000 in
theorem dL_law__1844 : D mL_law_ 1844 (.iload 4) 2 1846 := ⟨by decide +kernel, rfl⟩
set_option maxRecDepth 100000 in
theorem dL_law__1846 : D mL_law_ 1846 (.iconst 1) 1 1847 := ⟨by decide +kernel, rfl⟩
set_option maxRecDepth 100000 in
theorem dL_law__1847 : D mL_law_ 1847 (.iadd) 1 1848 := ⟨by decide +kernel, rfl⟩
set_option maxRecDepth 100000 in
theorem dL_law__1848 : D mL_law_ 1848 (.iaload) 1 1849 := ⟨by decide +kernel, rfl⟩
set_option maxRecDepth 100000 in
theorem dL_law__1849 : D mL_law_ 1849 (.aload_n 0) 1 1850 := ⟨by decide +kernel, rfl⟩
set_option maxRecDepth 100000 in
theorem dL_law__1850 : D mL_law_ 1850 (.iload 4) 2 1852 := ⟨by decide +kernel, rfl⟩
set_option maxRecDepth 100000 in
theorem dL_law__1852 : D mL_law_ 1852 (.iconst 2) 1 1853 := ⟨by decide +kernel, rfl⟩
set_option maxRecDepth 100000 in
theorem dL_law__1853 : D mL_law_ 1853 (.iadd) 1 1854 := ⟨by decide +kernel, rfl⟩
set_option maxRecDepth 100000 in
theorem dL_law__1854 : D mL_law_ 1854 (.iaload) 1 1855 := ⟨by decide +kernel, rfl⟩
set_option maxRecDepth 100000 in
theorem dL_law__1855 : D mL_law_ 1855 (.invokevirtual 240) 3 1858 := ⟨by decide +kernel, rfl⟩
set_option maxRecDepth 100000 in
theorem dL_law__1858 : D mL_law_ 1858 (.istore 6) 2 1860 := ⟨by decide +kernel, rfl⟩
set_option maxRecDepth 100000 in
theorem dL_law__1860 : D mL_law_ 1860 (.aload_n 2) 1 1861 := ⟨by decide +kernel, rfl⟩
set_option maxRecDepth 100000 in
theorem dL_law__1861 : D mL_law_ 1861 (.invokevirtual 146) 3 1864 := ⟨by decide +kernel, rfl⟩
set_option maxRecDepth 100000 in
theorem dL_law__1864 : D mL_law_ 1864 (.iload 5) 2 1866 := ⟨by decide +kernel, rfl⟩
set_option maxRecDepth 100000 in
theorem dL_law__1866 : DI mL_law_ 1866 (Instr.if_icmp .eq) 1869 1871 := ⟨5, by decide +kernel, rfl, rfl⟩
set_option maxRecDepth 100000 in
theorem dL_law__1869 : D mL_law_ 1869 (.iconst 0) 1 1870 := ⟨by decide +kernel, rfl⟩
set_option maxRecDepth 100000 in
theorem dL_law__1870 : D mL_law_ 1870 (.ireturn) 1 1871 := ⟨by decide +kernel, rfl⟩
set_option maxRecDepth 100000 in
theorem dL_law__1871 : D mL_law_ 1871 (.iload 5) 2 1873 := ⟨by decide +kernel, rfl⟩
set_option maxRecDepth 100000 in
theorem dL_law__1873 : DI mL_law_ 1873 (Instr.ifCond .ne) 1876 1888 := ⟨15, by decide +kernel, rfl, rfl⟩
set_option maxRecDepth 100000 in
theorem dL_law__1876 : D mL_law_ 1876 (.aload_n 3) 1 1877 := ⟨by decide +kernel, rfl⟩
set_option maxRecDepth 100000 in
theorem dL_law__1877 : D mL_law_ 1877 (.iconst 0) 1 1878 := ⟨by decide +kernel, rfl⟩
set_option maxRecDepth 100000 in
theorem dL_law__1878 : D mL_law_ 1878 (.laload) 1 1879 := ⟨by decide +kernel, rfl⟩
set_option maxRecDepth 100000 in
theorem dL_law__1879 : D mL_law_ 1879 (.iload 6) 2 1881 := ⟨by decide +kernel, rfl⟩
set_option maxRecDepth 100000 in
theorem dL_law__1881 : D mL_law_ 1881 (.i2l) 1 1882 := ⟨by decide +kernel, rfl⟩
set_option maxRecDepth 100000 in
theorem dL_law__1882 : D mL_law_ 1882 (.lcmp) 1 1883 := ⟨by decide +kernel, rfl⟩
set_option maxRecDepth 100000 in
theorem dL_law__1883 : DI mL_law_ 1883 (Instr.ifCond .eq) 1886 1888 := ⟨5, by decide +kernel, rfl, rfl⟩
set_option maxRecDepth 100000 in
theorem dL_law__1886 : D mL_law_ 1886 (.iconst 0) 1 1887 := ⟨by decide +kernel, rfl⟩
set_option maxRecDepth 100000 in
theorem dL_law__1887 : D mL_law_ 1887 (.ireturn) 1 1888 := ⟨by decide +kernel, rfl⟩
set_option maxRecDepth 100000 in
theorem dL_law__1888 : DI mL_law_ 1888 Instr.goto 1891 2859 := ⟨971, by decide +kernel, rfl, rfl⟩
set_option maxRecDepth 100000 in
theorem dL_law__1891 : D mL_law_ 1891 (.aload_n 1) 1 1892 := ⟨by decide +kernel, rfl⟩
set_option maxRecDepth 100000 in
theorem dL_law__1892 : D mL_law_ 1892 (.aload_n 0) 1 1893 := ⟨by decide +kernel, rfl⟩
set_option maxRecDepth 100000 in
theorem dL_law__1893 : D mL_law_ 1893 (.iload 4) 2 1895 := ⟨by decide +kernel, rfl⟩
set_option maxRecDepth 100000 in
theorem dL_law__1895 : D mL_law_ 1895 (.iconst 1) 1 1896 := ⟨by decide +kernel, rfl⟩
set_option maxRecDepth 100000 in
theorem dL_law__1896 : D mL_law_ 1896 (.iadd) 1 1897 := ⟨by decide +kernel, rfl⟩
set_option maxRecDepth 100000 in
theorem dL_law__1897 : D mL_law_ 1897 (.iaload) 1 1898 := ⟨by decide +kernel, rfl⟩
set_option maxRecDepth 100000 in
theorem dL_law__1898 : D mL_law_ 1898 (.aload_n 0) 1 1899 := ⟨by decide +kernel, rfl⟩
set_option maxRecDepth 100000 in
theorem dL_law__1899 : D mL_law_ 1899 (.iload 4) 2 1901 := ⟨by decide +kernel, rfl⟩
set_option maxRecDepth 100000 in
theorem dL_law__1901 : D mL_law_ 1901 (.iconst 2) 1 1902 := ⟨by decide +kernel, rfl⟩
set_option maxRecDepth 100000 in
theorem dL_law__1902 : D mL_law_ 1902 (.iadd) 1 1903 := ⟨by decide +kernel, rfl⟩
set_option maxRecDepth 100000 in
theorem dL_law__1903 : D mL_law_ 1903 (.iaload) 1 1904 := ⟨by decide +kernel, rfl⟩
set_option maxRecDepth 100000 in
theorem dL_law__1904 : D mL_law_ 1904 (.aload_n 3) 1 1905 := ⟨by decide +kernel, rfl⟩
set_option maxRecDepth 100000 in
theorem dL_law__1905 : D mL_law_ 1905 (.invokestatic 241) 3 1908 := ⟨by decide +kernel, rfl⟩
set_option maxRecDepth 100000 in
theorem dL_law__1908 : D mL_law_ 1908 (.istore 5) 2 1910 := ⟨by decide +kernel, rfl⟩
set_option maxRecDepth 100000 in
theorem dL_law__1910 : D mL_law_ 1910 (.aload_n 2) 1 1911 := ⟨by decide +kernel, rfl⟩
set_option maxRecDepth 100000 in
theorem dL_law__1911 : D mL_law_ 1911 (.aload_n 0) 1 1912 := ⟨by decide +kernel, rfl⟩
set_option maxRecDepth 100000 in
theorem dL_law__1912 : D mL_law_ 1912 (.iload 4) 2 1914 := ⟨by decide +kernel, rfl⟩
set_option maxRecDepth 100000 in
theorem dL_law__1914 : D mL_law_ 1914 (.iconst 1) 1 1915 := ⟨by decide +kernel, rfl⟩
set_option maxRecDepth 100000 in
theorem dL_law__1915 : D mL_law_ 1915 (.iadd) 1 1916 := ⟨by decide +kernel, rfl⟩
set_option maxRecDepth 100000 in
theorem dL_law__1916 : D mL_law_ 1916 (.iaload) 1 1917 := ⟨by decide +kernel, rfl⟩
set_option maxRecDepth 100000 in
theorem dL_law__1917 : D mL_law_ 1917 (.aload_n 0) 1 1918 := ⟨by decide +kernel, rfl⟩
set_option maxRecDepth 100000 in
theorem dL_law__1918 : D mL_law_ 1918 (.iload 4) 2 1920 := ⟨by decide +kernel, rfl⟩
set_option maxRecDepth 100000 in
theorem dL_law__1920 : D mL_law_ 1920 (.iconst 2) 1 1921 := ⟨by decide +kernel, rfl⟩
set_option maxRecDepth 100000 in
theorem dL_law__1921 : D mL_law_ 1921 (.iadd) 1 1922 := ⟨by decide +kernel, rfl⟩
set_option maxRecDepth 100000 in
theorem dL_law__1922 : D mL_law_ 1922 (.iaload) 1 1923 := ⟨by decide +kernel, rfl⟩
set_option maxRecDepth 100000 in
theorem dL_law__1923 : D mL_law_ 1923 (.invokevirtual 243) 3 1926 := ⟨by decide +kernel, rfl⟩
set_option maxRecDepth 100000 in
theorem dL_law__1926 : D mL_law_ 1926 (.istore 6) 2 1928 := ⟨by decide +kernel, rfl⟩
set_option maxRecDepth 100000 in
theorem dL_law__1928 : D mL_law_ 1928 (.aload_n 2) 1 1929 := ⟨by decide +kernel, rfl⟩
set_option maxRecDepth 100000 in
theorem dL_law__1929 : D mL_law_ 1929 (.invokevirtual 146) 3 1932 := ⟨by decide +kernel, rfl⟩
set_option maxRecDepth 100000 in
theorem dL_law__1932 : D mL_law_ 1932 (.iload 5) 2 1934 := ⟨by decide +kernel, rfl⟩
set_option maxRecDepth 100000 in
theorem dL_law__1934 : DI mL_law_ 1934 (Instr.if_icmp .eq) 1937 1939 := ⟨5, by decide +kernel, rfl, rfl⟩
set_option maxRecDepth 100000 in
theorem dL_law__1937 : D mL_law_ 1937 (.iconst 0) 1 1938 := ⟨by decide +kernel, rfl⟩
set_option maxRecDepth 100000 in
theorem dL_law__1938 : D mL_law_ 1938 (.ireturn) 1 1939 := ⟨by decide +kernel, rfl⟩
set_option maxRecDepth 100000 in
theorem dL_law__1939 : D mL_law_ 1939 (.iload 5) 2 1941 := ⟨by decide +kernel, rfl⟩
set_option maxRecDepth 100000 in
theorem dL_law__1941 : DI mL_law_ 1941 (Instr.ifCond .ne) 1944 1956 := ⟨15, by decide +kernel, rfl, rfl⟩
set_option maxRecDepth 100000 in
theorem dL_law__1944 : D mL_law_ 1944 (.aload_n 3) 1 1945 := ⟨by decide +kernel, rfl⟩
set_option maxRecDepth 100000 in
theorem dL_law__1945 : D mL_law_ 1945 (.iconst 0) 1 1946 := ⟨by decide +kernel, rfl⟩
set_option maxRecDepth 100000 in
theorem dL_law__1946 : D mL_law_ 1946 (.laload) 1 1947 := ⟨by decide +kernel, rfl⟩
set_option maxRecDepth 100000 in
theorem dL_law__1947 : D mL_law_ 1947 (.iload 6) 2 1949 := ⟨by decide +kernel, rfl⟩
set_option maxRecDepth 100000 in
theorem dL_law__1949 : D mL_law_ 1949 (.i2l) 1 1950 := ⟨by decide +kernel, rfl⟩
set_option maxRecDepth 100000 in
theorem dL_law__1950 : D mL_law_ 1950 (.lcmp) 1 1951 := ⟨by decide +kernel, rfl⟩
set_option maxRecDepth 100000 in
theorem dL_law__1951 : DI mL_law_ 1951 (Instr.ifCond .eq) 1954 1956 := ⟨5, by decide +kernel, rfl, rfl⟩
set_option maxRecDepth 100000 in
theorem dL_law__1954 : D mL_law_ 1954 (.iconst 0) 1 1955 := ⟨by decide +kernel, rfl⟩
set_option maxRecDepth 100000 in
theorem dL_law__1955 : D mL_law_ 1955 (.ireturn) 1 1956 := ⟨by decide +kernel, rfl⟩
set_option maxRecDepth 100000 in
theorem dL_law__1956 : DI mL_law_ 1956 Instr.goto 1959 2859 := ⟨903, by decide +kernel, rfl, rfl⟩
set_option maxRecDepth 100000 in
theorem dL_law__1959 : D mL_law_ 1959 (.aload_n 1) 1 1960 := ⟨by decide +kernel, rfl⟩
set_option maxRecDepth 100000 in
theorem dL_law__1960 : D mL_law_ 1960 (.aload_n 0) 1 1961 := ⟨by decide +kernel, rfl⟩
set_option maxRecDepth 100000 in
theorem dL_law__1961 : D mL_law_ 1961 (.iload 4) 2 1963 := ⟨by decide +kernel, rfl⟩
set_option maxRecDepth 100000 in
theorem dL_law__1963 : D mL_law_ 1963 (.iconst 1) 1 1964 := ⟨by decide +kernel, rfl⟩
set_option maxRecDepth 100000 in
theorem dL_law__1964 : D mL_law_ 1964 (.iadd) 1 1965 := ⟨by decide +kernel, rfl⟩
set_option maxRecDepth 100000 in
theorem dL_law__1965 : D mL_law_ 1965 (.iaload) 1 1966 := ⟨by decide +kernel, rfl⟩
set_option maxRecDepth 100000 in
theorem dL_law__1966 : D mL_law_ 1966 (.aload_n 0) 1 1967 := ⟨by decide +kernel, rfl⟩
set_option maxRecDepth 100000 in
theorem dL_law__1967 : D mL_law_ 1967 (.iload 4) 2 1969 := ⟨by decide +kernel, rfl⟩
set_option maxRecDepth 100000 in
theorem dL_law__1969 : D mL_law_ 1969 (.iconst 2) 1 1970 := ⟨by decide +kernel, rfl⟩
set_option maxRecDepth 100000 in
theorem dL_law__1970 : D mL_law_ 1970 (.iadd) 1 1971 := ⟨by decide +kernel, rfl⟩
set_option maxRecDepth 100000 in
theorem dL_law__1971 : D mL_law_ 1971 (.iaload) 1 1972 := ⟨by decide +kernel, rfl⟩
set_option maxRecDepth 100000 in
theorem dL_law__1972 : D mL_law_ 1972 (.aload_n 3) 1 1973 := ⟨by decide +kernel, rfl⟩
set_option maxRecDepth 100000 in
theorem dL_law__1973 : D mL_law_ 1973 (.invokestatic 244) 3 1976 := ⟨by decide +kernel, rfl⟩
set_option maxRecDepth 100000 in
theorem dL_law__1976 : D mL_law_ 1976 (.istore 5) 2 1978 := ⟨by decide +kernel, rfl⟩
set_option maxRecDepth 100000 in
theorem dL_law__1978 : D mL_law_ 1978 (.aload_n 2) 1 1979 := ⟨by decide +kernel, rfl⟩
set_option maxRecDepth 100000 in
theorem dL_law__1979 : D mL_law_ 1979 (.aload_n 0) 1 1980 := ⟨by decide +kernel, rfl⟩
set_option maxRecDepth 100000 in
theorem dL_law__1980 : D mL_law_ 1980 (.iload 4) 2 1982 := ⟨by decide +kernel, rfl⟩
set_option maxRecDepth 100000 in
theorem dL_law__1982 : D mL_law_ 1982 (.iconst 1) 1 1983 := ⟨by decide +kernel, rfl⟩
set_option maxRecDepth 100000 in
theorem dL_law__1983 : D mL_law_ 1983 (.iadd) 1 1984 := ⟨by decide +kernel, rfl⟩
set_option maxRecDepth 100000 in
theorem dL_law__1984 : D mL_law_ 1984 (.iaload) 1 1985 := ⟨by decide +kernel, rfl⟩
set_option maxRecDepth 100000 in
theorem dL_law__1985 : D mL_law_ 1985 (.aload_n 0) 1 1986 := ⟨by decide +kernel, rfl⟩
set_option maxRecDepth 100000 in
theorem dL_law__1986 : D mL_law_ 1986 (.iload 4) 2 1988 := ⟨by decide +kernel, rfl⟩
set_option maxRecDepth 100000 in
theorem dL_law__1988 : D mL_law_ 1988 (.iconst 2) 1 1989 := ⟨by decide +kernel, rfl⟩
set_option maxRecDepth 100000 in
theorem dL_law__1989 : D mL_law_ 1989 (.iadd) 1 1990 := ⟨by decide +kernel, rfl⟩
set_option maxRecDepth 100000 in
theorem dL_law__1990 : D mL_law_ 1990 (.iaload) 1 1991 := ⟨by decide +kernel, rfl⟩
set_option maxRecDepth 100000 in
theorem dL_law__1991 : D mL_law_ 1991 (.invokevirtual 246) 3 1994 := ⟨by decide +kernel, rfl⟩
set_option maxRecDepth 100000 in
theorem dL_law__1994 : D mL_law_ 1994 (.istore 6) 2 1996 := ⟨by decide +kernel, rfl⟩
set_option maxRecDepth 100000 in
theorem dL_law__1996 : D mL_law_ 1996 (.aload_n 2) 1 1997 := ⟨by decide +kernel, rfl⟩
set_option maxRecDepth 100000 in
theorem dL_law__1997 : D mL_law_ 1997 (.invokevirtual 146) 3 2000 := ⟨by decide +kernel, rfl⟩
set_option maxRecDepth 100000 in
theorem dL_law__2000 : D mL_law_ 2000 (.iload 5) 2 2002 := ⟨by decide +kernel, rfl⟩
set_option maxRecDepth 100000 in
theorem dL_law__2002 : DI mL_law_ 2002 (Instr.if_icmp .eq) 2005 2007 := ⟨5, by decide +kernel, rfl, rfl⟩
set_option maxRecDepth 100000 in
theorem dL_law__2005 : D mL_law_ 2005 (.iconst 0) 1 2006 := ⟨by decide +kernel, rfl⟩
set_option maxRecDepth 100000 in
theorem dL_law__2006 : D mL_law_ 2006 (.ireturn) 1 2007 := ⟨by decide +kernel, rfl⟩
set_option maxRecDepth 100000 in
theorem dL_law__2007 : D mL_law_ 2007 (.iload 5) 2 2009 := ⟨by decide +kernel, rfl⟩
set_option maxRecDepth 100000 in
theorem dL_law__2009 : DI mL_law_ 2009 (Instr.ifCond .ne) 2012 2024 := ⟨15, by decide +kernel, rfl, rfl⟩
set_option maxRecDepth 100000 in
theorem dL_law__2012 : D mL_law_ 2012 (.aload_n 3) 1 2013 := ⟨by decide +kernel, rfl⟩
set_option maxRecDepth 100000 in
theorem dL_law__2013 : D mL_law_ 2013 (.iconst 0) 1 2014 := ⟨by decide +kernel, rfl⟩
set_option maxRecDepth 100000 in
theorem dL_law__2014 : D mL_law_ 2014 (.laload) 1 2015 := ⟨by decide +kernel, rfl⟩
set_option maxRecDepth 100000 in
theorem dL_law__2015 : D mL_law_ 2015 (.iload 6) 2 2017 := ⟨by decide +kernel, rfl⟩
set_option maxRecDepth 100000 in
theorem dL_law__2017 : D mL_law_ 2017 (.i2l) 1 2018 := ⟨by decide +kernel, rfl⟩
set_option maxRecDepth 100000 in
theorem dL_law__2018 : D mL_law_ 2018 (.lcmp) 1 2019 := ⟨by decide +kernel, rfl⟩
set_option maxRecDepth 100000 in
theorem dL_law__2019 : DI mL_law_ 2019 (Instr.ifCond .eq) 2022 2024 := ⟨5, by decide +kernel, rfl, rfl⟩
set_option maxRecDepth 100000 in
theorem dL_law__2022 : D mL_law_ 2022 (.iconst 0) 1 2023 := ⟨by decide +kernel, rfl⟩
set_option maxRecDepth 100000 in
theorem dL_law__2023 : D mL_law_ 2023 (.ireturn) 1 2024 := ⟨by decide +kernel, rfl⟩
set_option maxRecDepth 100000 in
theorem dL_law__2024 : DI mL_law_ 2024 Instr.goto 2027 2859 := ⟨835, by decide +kernel, rfl, rfl⟩
set_option maxRecDepth 100000 in
theorem dL_law__2027 : D mL_law_ 2027 (.aload_n 1) 1 2028 := ⟨by decide +kernel, rfl⟩
set_option maxRecDepth 100000 in
theorem dL_law__2028 : D mL_law_ 2028 (.invokevirtual 247) 3 2031 := ⟨by decide +kernel, rfl⟩
set_option maxRecDepth 100000 in
theorem dL_law__2031 : D mL_law_ 2031 (.aload_n 2) 1 2032 := ⟨by decide +kernel, rfl⟩
set_option maxRecDepth 100000 in
theorem dL_law__2032 : D mL_law_ 2032 (.invokevirtual 250) 3 2035 := ⟨by decide +kernel, rfl⟩
set_option maxRecDepth 100000 in
theorem dL_law__2035 : DI mL_law_ 2035 (Instr.if_icmp .eq) 2038 2859 := ⟨824, by decide +kernel, rfl, rfl⟩
set_option maxRecDepth 100000 in
theorem dL_law__2038 : D mL_law_ 2038 (.iconst 0) 1 2039 := ⟨by decide +kernel, rfl⟩
set_option maxRecDepth 100000 in
theorem dL_law__2039 : D mL_law_ 2039 (.ireturn) 1 2040 := ⟨by decide +kernel, rfl⟩
set_option maxRecDepth 100000 in
theorem dL_law__2040 : D mL_law_ 2040 (.aload_n 1) 1 2041 := ⟨by decide +kernel, rfl⟩
set_option maxRecDepth 100000 in
theorem dL_law__2041 : D mL_law_ 2041 (.aload_n 0) 1 2042 := ⟨by decide +kernel, rfl⟩
set_option maxRecDepth 100000 in
theorem dL_law__2042 : D mL_law_ 2042 (.iload 4) 2 2044 := ⟨by decide +kernel, rfl⟩
set_option maxRecDepth 100000 in
theorem dL_law__2044 : D mL_law_ 2044 (.iconst 1) 1 2045 := ⟨by decide +kernel, rfl⟩
set_option maxRecDepth 100000 in
theorem dL_law__2045 : D mL_law_ 2045 (.iadd) 1 2046 := ⟨by decide +kernel, rfl⟩
set_option maxRecDepth 100000 in
theorem dL_law__2046 : D mL_law_ 2046 (.iaload) 1 2047 := ⟨by decide +kernel, rfl⟩
set_option maxRecDepth 100000 in
theorem dL_law__2047 : D mL_law_ 2047 (.aload_n 3) 1 2048 := ⟨by decide +kernel, rfl⟩
set_option maxRecDepth 100000 in
theorem dL_law__2048 : D mL_law_ 2048 (.invokestatic 251) 3 2051 := ⟨by decide +kernel, rfl⟩
set_option maxRecDepth 100000 in
theorem dL_law__2051 : D mL_law_ 2051 (.istore 5) 2 2053 := ⟨by decide +kernel, rfl⟩
set_option maxRecDepth 100000 in
theorem dL_law__2053 : D mL_law_ 2053 (.aload_n 2) 1 2054 := ⟨by decide +kernel, rfl⟩
set_option maxRecDepth 100000 in
theorem dL_law__2054 : D mL_law_ 2054 (.aload_n 0) 1 2055 := ⟨by decide +kernel, rfl⟩
set_option maxRecDepth 100000 in
theorem dL_law__2055 : D mL_law_ 2055 (.iload 4) 2 2057 := ⟨by decide +kernel, rfl⟩
set_option maxRecDepth 100000 in
theorem dL_law__2057 : D mL_law_ 2057 (.iconst 1) 1 2058 := ⟨by decide +kernel, rfl⟩
set_option maxRecDepth 100000 in
theorem dL_law__2058 : D mL_law_ 2058 (.iadd) 1 2059 := ⟨by decide +kernel, rfl⟩
set_option maxRecDepth 100000 in
theorem dL_law__2059 : D mL_law_ 2059 (.iaload) 1 2060 := ⟨by decide +kernel, rfl⟩
set_option maxRecDepth 100000 in
theorem dL_law__2060 : D mL_law_ 2060 (.invokevirtual 253) 3 2063 := ⟨by decide +kernel, rfl⟩
set_option maxRecDepth 100000 in
theorem dL_law__2063 : D mL_law_ 2063 (.istore 6) 2 2065 := ⟨by decide +kernel, rfl⟩
set_option maxRecDepth 100000 in
theorem dL_law__2065 : D mL_law_ 2065 (.aload_n 2) 1 2066 := ⟨by decide +kernel, rfl⟩
set_option maxRecDepth 100000 in
theorem dL_law__2066 : D mL_law_ 2066 (.invokevirtual 146) 3 2069 := ⟨by decide +kernel, rfl⟩
set_option maxRecDepth 100000 in
theorem dL_law__2069 : D mL_law_ 2069 (.iload 5) 2 2071 := ⟨by decide +kernel, rfl⟩
set_option maxRecDepth 100000 in
theorem dL_law__2071 : DI mL_law_ 2071 (Instr.if_icmp .eq) 2074 2076 := ⟨5, by decide +kernel, rfl, rfl⟩
set_option maxRecDepth 100000 in
theorem dL_law__2074 : D mL_law_ 2074 (.iconst 0) 1 2075 := ⟨by decide +kernel, rfl⟩
set_option maxRecDepth 100000 in
theorem dL_law__2075 : D mL_law_ 2075 (.ireturn) 1 2076 := ⟨by decide +kernel, rfl⟩
set_option maxRecDepth 100000 in
theorem dL_law__2076 : D mL_law_ 2076 (.iload 5) 2 2078 := ⟨by decide +kernel, rfl⟩
set_option maxRecDepth 100000 in
theorem dL_law__2078 : DI mL_law_ 2078 (Instr.ifCond .ne) 2081 2093 := ⟨15, by decide +kernel, rfl, rfl⟩
set_option maxRecDepth 100000 in
theorem dL_law__2081 : D mL_law_ 2081 (.aload_n 3) 1 2082 := ⟨by decide +kernel, rfl⟩
set_option maxRecDepth 100000 in
theorem dL_law__2082 : D mL_law_ 2082 (.iconst 0) 1 2083 := ⟨by decide +kernel, rfl⟩
set_option maxRecDepth 100000 in
theorem dL_law__2083 : D mL_law_ 2083 (.laload) 1 2084 := ⟨by decide +kernel, rfl⟩
set_option maxRecDepth 100000 in
theorem dL_law__2084 : D mL_law_ 2084 (.iload 6) 2 2086 := ⟨by decide +kernel, rfl⟩
set_option maxRecDepth 100000 in
theorem dL_law__2086 : D mL_law_ 2086 (.i2l) 1 2087 := ⟨by decide +kernel, rfl⟩
set_option maxRecDepth 100000 in
theorem dL_law__2087 : D mL_law_ 2087 (.lcmp) 1 2088 := ⟨by decide +kernel, rfl⟩
set_option maxRecDepth 100000 in
theorem dL_law__2088 : DI mL_law_ 2088 (Instr.ifCond .eq) 2091 2093 := ⟨5, by decide +kernel, rfl, rfl⟩
set_option maxRecDepth 100000 in
theorem dL_law__2091 : D mL_law_ 2091 (.iconst 0) 1 2092 := ⟨by decide +kernel, rfl⟩
set_option maxRecDepth 100000 in
theorem dL_law__2092 : D mL_law_ 2092 (.ireturn) 1 2093 := ⟨by decide +kernel, rfl⟩
set_option maxRecDepth 100000 in
theorem dL_law__2093 : DI mL_law_ 2093 Instr.goto 2096 2859 := ⟨766, by decide +kernel, rfl, rfl⟩
set_option maxRecDepth 100000 in
theorem dL_law__2096 : D mL_law_ 2096 (.aload_n 1) 1 2097 := ⟨by decide +kernel, rfl⟩
set_option maxRecDepth 100000 in
theorem dL_law__2097 : D mL_law_ 2097 (.invokevirtual 254) 3 2100 := ⟨by decide +kernel, rfl⟩
set_option maxRecDepth 100000 in
theorem dL_law__2100 : D mL_law_ 2100 (.aload_n 2) 1 2101 := ⟨by decide +kernel, rfl⟩
set_option maxRecDepth 100000 in
theorem dL_law__2101 : D mL_law_ 2101 (.invokevirtual 257) 3 2104 := ⟨by decide +kernel, rfl⟩
set_option maxRecDepth 100000 in
theorem dL_law__2104 : DI mL_law_ 2104 (Instr.if_icmp .eq) 2107 2859 := ⟨755, by decide +kernel, rfl, rfl⟩
set_option maxRecDepth 100000 in
theorem dL_law__2107 : D mL_law_ 2107 (.iconst 0) 1 2108 := ⟨by decide +kernel, rfl⟩
set_option maxRecDepth 100000 in
theorem dL_law__2108 : D mL_law_ 2108 (.ireturn) 1 2109 := ⟨by decide +kernel, rfl⟩
set_option maxRecDepth 100000 in
theorem dL_law__2109 : D mL_law_ 2109 (.aload_n 1) 1 2110 := ⟨by decide +kernel, rfl⟩
set_option maxRecDepth 100000 in
theorem dL_law__2110 : D mL_law_ 2110 (.aload_n 0) 1 2111 := ⟨by decide +kernel, rfl⟩
set_option maxRecDepth 100000 in
theorem dL_law__2111 : D mL_law_ 2111 (.iload 4) 2 2113 := ⟨by decide +kernel, rfl⟩
set_option maxRecDepth 100000 in
theorem dL_law__2113 : D mL_law_ 2113 (.iconst 1) 1 2114 := ⟨by decide +kernel, rfl⟩
set_option maxRecDepth 100000 in
theorem dL_law__2114 : D mL_law_ 2114 (.iadd) 1 2115 := ⟨by decide +kernel, rfl⟩
set_option maxRecDepth 100000 in
theorem dL_law__2115 : D mL_law_ 2115 (.iaload) 1 2116 := ⟨by decide +kernel, rfl⟩
set_option maxRecDepth 100000 in
theorem dL_law__2116 : D mL_law_ 2116 (.aload_n 3) 1 2117 := ⟨by decide +kernel, rfl⟩
set_option maxRecDepth 100000 in
theorem dL_law__2117 : D mL_law_ 2117 (.invokestatic 258) 3 2120 := ⟨by decide +kernel, rfl⟩
set_option maxRecDepth 100000 in
theorem dL_law__2120 : D mL_law_ 2120 (.istore 5) 2 2122 := ⟨by decide +kernel, rfl⟩
set_option maxRecDepth 100000 in
theorem dL_law__2122 : D mL_law_ 2122 (.aload_n 2) 1 2123 := ⟨by decide +kernel, rfl⟩
set_option maxRecDepth 100000 in
theorem dL_law__2123 : D mL_law_ 2123 (.aload_n 0) 1 2124 := ⟨by decide +kernel, rfl⟩
set_option maxRecDepth 100000 in
theorem dL_law__2124 : D mL_law_ 2124 (.iload 4) 2 2126 := ⟨by decide +kernel, rfl⟩
set_option maxRecDepth 100000 in
theorem dL_law__2126 : D mL_law_ 2126 (.iconst 1) 1 2127 := ⟨by decide +kernel, rfl⟩
set_option maxRecDepth 100000 in
theorem dL_law__2127 : D mL_law_ 2127 (.iadd) 1 2128 := ⟨by decide +kernel, rfl⟩
set_option maxRecDepth 100000 in
theorem dL_law__2128 : D mL_law_ 2128 (.iaload) 1 2129 := ⟨by decide +kernel, rfl⟩
set_option maxRecDepth 100000 in
theorem dL_law__2129 : D mL_law_ 2129 (.invokevirtual 260) 3 2132 := ⟨by decide +kernel, rfl⟩
set_option maxRecDepth 100000 in
theorem dL_law__2132 : D mL_law_ 2132 (.istore 6) 2 2134 := ⟨by decide +kernel, rfl⟩
set_option maxRecDepth 100000 in
theorem dL_law__2134 : D mL_law_ 2134 (.aload_n 2) 1 2135 := ⟨by decide +kernel, rfl⟩
set_option maxRecDepth 100000 in
theorem dL_law__2135 : D mL_law_ 2135 (.invokevirtual 146) 3 2138 := ⟨by decide +kernel, rfl⟩
set_option maxRecDepth 100000 in
theorem dL_law__2138 : D mL_law_ 2138 (.iload 5) 2 2140 := ⟨by decide +kernel, rfl⟩
set_option maxRecDepth 100000 in
theorem dL_law__2140 : DI mL_law_ 2140 (Instr.if_icmp .eq) 2143 2145 := ⟨5, by decide +kernel, rfl, rfl⟩
set_option maxRecDepth 100000 in
theorem dL_law__2143 : D mL_law_ 2143 (.iconst 0) 1 2144 := ⟨by decide +kernel, rfl⟩
set_option maxRecDepth 100000 in
theorem dL_law__2144 : D mL_law_ 2144 (.ireturn) 1 2145 := ⟨by decide +kernel, rfl⟩
set_option maxRecDepth 100000 in
theorem dL_law__2145 : D mL_law_ 2145 (.iload 5) 2 2147 := ⟨by decide +kernel, rfl⟩
set_option maxRecDepth 100000 in
theorem dL_law__2147 : DI mL_law_ 2147 (Instr.ifCond .ne) 2150 2162 := ⟨15, by decide +kernel, rfl, rfl⟩
set_option maxRecDepth 100000 in
theorem dL_law__2150 : D mL_law_ 2150 (.aload_n 3) 1 2151 := ⟨by decide +kernel, rfl⟩
set_option maxRecDepth 100000 in
theorem dL_law__2151 : D mL_law_ 2151 (.iconst 0) 1 2152 := ⟨by decide +kernel, rfl⟩
set_option maxRecDepth 100000 in
theorem dL_law__2152 : D mL_law_ 2152 (.laload) 1 2153 := ⟨by decide +kernel, rfl⟩
set_option maxRecDepth 100000 in
theorem dL_law__2153 : D mL_law_ 2153 (.iload 6) 2 2155 := ⟨by decide +kernel, rfl⟩
set_option maxRecDepth 100000 in
theorem dL_law__2155 : D mL_law_ 2155 (.i2l) 1 2156 := ⟨by decide +kernel, rfl⟩
set_option maxRecDepth 100000 in
theorem dL_law__2156 : D mL_law_ 2156 (.lcmp) 1 2157 := ⟨by decide +kernel, rfl⟩
set_option maxRecDepth 100000 in
theorem dL_law__2157 : DI mL_law_ 2157 (Instr.ifCond .eq) 2160 2162 := ⟨5, by decide +kernel, rfl, rfl⟩
set_option maxRecDepth 100000 in
theorem dL_law__2160 : D mL_law_ 2160 (.iconst 0) 1 2161 := ⟨by decide +kernel, rfl⟩
set_option maxRecDepth 100000 in
theorem dL_law__2161 : D mL_law_ 2161 (.ireturn) 1 2162 := ⟨by decide +kernel, rfl⟩
set_option maxRecDepth 100000 in
theorem dL_law__2162 : DI mL_law_ 2162 Instr.goto 2165 2859 := ⟨697, by decide +kernel, rfl, rfl⟩
set_option maxRecDepth 100000 in
theorem dL_law__2165 : D mL_law_ 2165 (.aload_n 1) 1 2166 := ⟨by decide +kernel, rfl⟩
set_option maxRecDepth 100000 in
theorem dL_law__2166 : D mL_law_ 2166 (.aload_n 0) 1 2167 := ⟨by decide +kernel, rfl⟩
set_option maxRecDepth 100000 in
theorem dL_law__2167 : D mL_law_ 2167 (.iload 4) 2 2169 := ⟨by decide +kernel, rfl⟩
set_option maxRecDepth 100000 in
theorem dL_law__2169 : D mL_law_ 2169 (.iconst 1) 1 2170 := ⟨by decide +kernel, rfl⟩
set_option maxRecDepth 100000 in
theorem dL_law__2170 : D mL_law_ 2170 (.iadd) 1 2171 := ⟨by decide +kernel, rfl⟩
set_option maxRecDepth 100000 in
theorem dL_law__2171 : D mL_law_ 2171 (.iaload) 1 2172 := ⟨by decide +kernel, rfl⟩
set_option maxRecDepth 100000 in
theorem dL_law__2172 : D mL_law_ 2172 (.aload_n 0) 1 2173 := ⟨by decide +kernel, rfl⟩
set_option maxRecDepth 100000 in
theorem dL_law__2173 : D mL_law_ 2173 (.iload 4) 2 2175 := ⟨by decide +kernel, rfl⟩
set_option maxRecDepth 100000 in
theorem dL_law__2175 : D mL_law_ 2175 (.iconst 2) 1 2176 := ⟨by decide +kernel, rfl⟩
set_option maxRecDepth 100000 in
theorem dL_law__2176 : D mL_law_ 2176 (.iadd) 1 2177 := ⟨by decide +kernel, rfl⟩
set_option maxRecDepth 100000 in
theorem dL_law__2177 : D mL_law_ 2177 (.iaload) 1 2178 := ⟨by decide +kernel, rfl⟩
set_option maxRecDepth 100000 in
theorem dL_law__2178 : D mL_law_ 2178 (.aload_n 3) 1 2179 := ⟨by decide +kernel, rfl⟩
set_option maxRecDepth 100000 in
theorem dL_law__2179 : D mL_law_ 2179 (.invokestatic 261) 3 2182 := ⟨by decide +kernel, rfl⟩
set_option maxRecDepth 100000 in
theorem dL_law__2182 : D mL_law_ 2182 (.istore 5) 2 2184 := ⟨by decide +kernel, rfl⟩
set_option maxRecDepth 100000 in
theorem dL_law__2184 : D mL_law_ 2184 (.aload_n 2) 1 2185 := ⟨by decide +kernel, rfl⟩
set_option maxRecDepth 100000 in
theorem dL_law__2185 : D mL_law_ 2185 (.aload_n 0) 1 2186 := ⟨by decide +kernel, rfl⟩
set_option maxRecDepth 100000 in
theorem dL_law__2186 : D mL_law_ 2186 (.iload 4) 2 2188 := ⟨by decide +kernel, rfl⟩
set_option maxRecDepth 100000 in
theorem dL_law__2188 : D mL_law_ 2188 (.iconst 1) 1 2189 := ⟨by decide +kernel, rfl⟩
set_option maxRecDepth 100000 in
theorem dL_law__2189 : D mL_law_ 2189 (.iadd) 1 2190 := ⟨by decide +kernel, rfl⟩
set_option maxRecDepth 100000 in
theorem dL_law__2190 : D mL_law_ 2190 (.iaload) 1 2191 := ⟨by decide +kernel, rfl⟩
set_option maxRecDepth 100000 in
theorem dL_law__2191 : D mL_law_ 2191 (.aload_n 0) 1 2192 := ⟨by decide +kernel, rfl⟩
set_option maxRecDepth 100000 in
theorem dL_law__2192 : D mL_law_ 2192 (.iload 4) 2 2194 := ⟨by decide +kernel, rfl⟩
set_option maxRecDepth 100000 in
theorem dL_law__2194 : D mL_law_ 2194 (.iconst 2) 1 2195 := ⟨by decide +kernel, rfl⟩
set_option maxRecDepth 100000 in
theorem dL_law__2195 : D mL_law_ 2195 (.iadd) 1 2196 := ⟨by decide +kernel, rfl⟩
set_option maxRecDepth 100000 in
theorem dL_law__2196 : D mL_law_ 2196 (.iaload) 1 2197 := ⟨by decide +kernel, rfl⟩
set_option maxRecDepth 100000 in
theorem dL_law__2197 : D mL_law_ 2197 (.invokevirtual 263) 3 2200 := ⟨by decide +kernel, rfl⟩
set_option maxRecDepth 100000 in
theorem dL_law__2200 : D mL_law_ 2200 (.istore 6) 2 2202 := ⟨by decide +kernel, rfl⟩
set_option maxRecDepth 100000 in
theorem dL_law__2202 : D mL_law_ 2202 (.aload_n 2) 1 2203 := ⟨by decide +kernel, rfl⟩
set_option maxRecDepth 100000 in
theorem dL_law__2203 : D mL_law_ 2203 (.invokevirtual 146) 3 2206 := ⟨by decide +kernel, rfl⟩
set_option maxRecDepth 100000 in
theorem dL_law__2206 : D mL_law_ 2206 (.iload 5) 2 2208 := ⟨by decide +kernel, rfl⟩
set_option maxRecDepth 100000 in
theorem dL_law__2208 : DI mL_law_ 2208 (Instr.if_icmp .eq) 2211 2213 := ⟨5, by decide +kernel, rfl, rfl⟩
set_option maxRecDepth 100000 in
theorem dL_law__2211 : D mL_law_ 2211 (.iconst 0) 1 2212 := ⟨by decide +kernel, rfl⟩
set_option maxRecDepth 100000 in
theorem dL_law__2212 : D mL_law_ 2212 (.ireturn) 1 2213 := ⟨by decide +kernel, rfl⟩
set_option maxRecDepth 100000 in
theorem dL_law__2213 : D mL_law_ 2213 (.iload 5) 2 2215 := ⟨by decide +kernel, rfl⟩
set_option maxRecDepth 100000 in
theorem dL_law__2215 : DI mL_law_ 2215 (Instr.ifCond .ne) 2218 2230 := ⟨15, by decide +kernel, rfl, rfl⟩
set_option maxRecDepth 100000 in
theorem dL_law__2218 : D mL_law_ 2218 (.aload_n 3) 1 2219 := ⟨by decide +kernel, rfl⟩
set_option maxRecDepth 100000 in
theorem dL_law__2219 : D mL_law_ 2219 (.iconst 0) 1 2220 := ⟨by decide +kernel, rfl⟩
set_option maxRecDepth 100000 in
theorem dL_law__2220 : D mL_law_ 2220 (.laload) 1 2221 := ⟨by decide +kernel, rfl⟩
set_option maxRecDepth 100000 in
theorem dL_law__2221 : D mL_law_ 2221 (.iload 6) 2 2223 := ⟨by decide +kernel, rfl⟩
set_option maxRecDepth 100000 in
theorem dL_law__2223 : D mL_law_ 2223 (.i2l) 1 2224 := ⟨by decide +kernel, rfl⟩
set_option maxRecDepth 100000 in
theorem dL_law__2224 : D mL_law_ 2224 (.lcmp) 1 2225 := ⟨by decide +kernel, rfl⟩
set_option maxRecDepth 100000 in
theorem dL_law__2225 : DI mL_law_ 2225 (Instr.ifCond .eq) 2228 2230 := ⟨5, by decide +kernel, rfl, rfl⟩
set_option maxRecDepth 100000 in
theorem dL_law__2228 : D mL_law_ 2228 (.iconst 0) 1 2229 := ⟨by decide +kernel, rfl⟩
set_option maxRecDepth 100000 in
theorem dL_law__2229 : D mL_law_ 2229 (.ireturn) 1 2230 := ⟨by decide +kernel, rfl⟩
set_option maxRecDepth 100000 in
theorem dL_law__2230 : DI mL_law_ 2230 Instr.goto 2233 2859 := ⟨629, by decide +kernel, rfl, rfl⟩
set_option maxRecDepth 100000 in
theorem dL_law__2233 : D mL_law_ 2233 (.aload_n 1) 1 2234 := ⟨by decide +kernel, rfl⟩
set_option maxRecDepth 100000 in
theorem dL_law__2234 : D mL_law_ 2234 (.invokevirtual 264) 3 2237 := ⟨by decide +kernel, rfl⟩
set_option maxRecDepth 100000 in
theorem dL_law__2237 : D mL_law_ 2237 (.aload_n 2) 1 2238 := ⟨by decide +kernel, rfl⟩
set_option maxRecDepth 100000 in
theorem dL_law__2238 : D mL_law_ 2238 (.invokevirtual 267) 3 2241 := ⟨by decide +kernel, rfl⟩
set_option maxRecDepth 100000 in
theorem dL_law__2241 : DI mL_law_ 2241 (Instr.if_icmp .eq) 2244 2859 := ⟨618, by decide +kernel, rfl, rfl⟩
set_option maxRecDepth 100000 in
theorem dL_law__2244 : D mL_law_ 2244 (.iconst 0) 1 2245 := ⟨by decide +kernel, rfl⟩
set_option maxRecDepth 100000 in
theorem dL_law__2245 : D mL_law_ 2245 (.ireturn) 1 2246 := ⟨by decide +kernel, rfl⟩
set_option maxRecDepth 100000 in
theorem dL_law__2246 : D mL_law_ 2246 (.aload_n 1) 1 2247 := ⟨by decide +kernel, rfl⟩
set_option maxRecDepth 100000 in
theorem dL_law__2247 : D mL_law_ 2247 (.invokevirtual 268) 3 2250 := ⟨by decide +kernel, rfl⟩
set_option maxRecDepth 100000 in
theorem dL_law__2250 : D mL_law_ 2250 (.aload_n 2) 1 2251 := ⟨by decide +kernel, rfl⟩
set_option maxRecDepth 100000 in
theorem dL_law__2251 : D mL_law_ 2251 (.invokevirtual 271) 3 2254 := ⟨by decide +kernel, rfl⟩
set_option maxRecDepth 100000 in
theorem dL_law__2254 : DI mL_law_ 2254 (Instr.if_icmp .eq) 2257 2859 := ⟨605, by decide +kernel, rfl, rfl⟩
set_option maxRecDepth 100000 in
theorem dL_law__2257 : D mL_law_ 2257 (.iconst 0) 1 2258 := ⟨by decide +kernel, rfl⟩
set_option maxRecDepth 100000 in
theorem dL_law__2258 : D mL_law_ 2258 (.ireturn) 1 2259 := ⟨by decide +kernel, rfl⟩
set_option maxRecDepth 100000 in
theorem dL_law__2259 : D mL_law_ 2259 (.aload_n 1) 1 2260 := ⟨by decide +kernel, rfl⟩
set_option maxRecDepth 100000 in
theorem dL_law__2260 : D mL_law_ 2260 (.aload_n 0) 1 2261 := ⟨by decide +kernel, rfl⟩
set_option maxRecDepth 100000 in
theorem dL_law__2261 : D mL_law_ 2261 (.iload 4) 2 2263 := ⟨by decide +kernel, rfl⟩
set_option maxRecDepth 100000 in
theorem dL_law__2263 : D mL_law_ 2263 (.iconst 1) 1 2264 := ⟨by decide +kernel, rfl⟩
set_option maxRecDepth 100000 in
theorem dL_law__2264 : D mL_law_ 2264 (.iadd) 1 2265 := ⟨by decide +kernel, rfl⟩
set_option maxRecDepth 100000 in
theorem dL_law__2265 : D mL_law_ 2265 (.iaload) 1 2266 := ⟨by decide +kernel, rfl⟩
set_option maxRecDepth 100000 in
theorem dL_law__2266 : D mL_law_ 2266 (.aload_n 3) 1 2267 := ⟨by decide +kernel, rfl⟩
set_option maxRecDepth 100000 in
theorem dL_law__2267 : D mL_law_ 2267 (.invokestatic 272) 3 2270 := ⟨by decide +kernel, rfl⟩
set_option maxRecDepth 100000 in
theorem dL_law__2270 : D mL_law_ 2270 (.istore 5) 2 2272 := ⟨by decide +kernel, rfl⟩
set_option maxRecDepth 100000 in
theorem dL_law__2272 : D mL_law_ 2272 (.aload_n 2) 1 2273 := ⟨by decide +kernel, rfl⟩
set_option maxRecDepth 100000 in
theorem dL_law__2273 : D mL_law_ 2273 (.aload_n 0) 1 2274 := ⟨by decide +kernel, rfl⟩
set_option maxRecDepth 100000 in
theorem dL_law__2274 : D mL_law_ 2274 (.iload 4) 2 2276 := ⟨by decide +kernel, rfl⟩
set_option maxRecDepth 100000 in
theorem dL_law__2276 : D mL_law_ 2276 (.iconst 1) 1 2277 := ⟨by decide +kernel, rfl⟩
set_option maxRecDepth 100000 in
theorem dL_law__2277 : D mL_law_ 2277 (.iadd) 1 2278 := ⟨by decide +kernel, rfl⟩
set_option maxRecDepth 100000 in
theorem dL_law__2278 : D mL_law_ 2278 (.iaload) 1 2279 := ⟨by decide +kernel, rfl⟩
set_option maxRecDepth 100000 in
theorem dL_law__2279 : D mL_law_ 2279 (.invokevirtual 274) 3 2282 := ⟨by decide +kernel, rfl⟩
set_option maxRecDepth 100000 in
theorem dL_law__2282 : D mL_law_ 2282 (.istore 6) 2 2284 := ⟨by decide +kernel, rfl⟩
set_option maxRecDepth 100000 in
theorem dL_law__2284 : D mL_law_ 2284 (.aload_n 2) 1 2285 := ⟨by decide +kernel, rfl⟩
set_option maxRecDepth 100000 in
theorem dL_law__2285 : D mL_law_ 2285 (.invokevirtual 146) 3 2288 := ⟨by decide +kernel, rfl⟩
set_option maxRecDepth 100000 in
theorem dL_law__2288 : D mL_law_ 2288 (.iload 5) 2 2290 := ⟨by decide +kernel, rfl⟩
set_option maxRecDepth 100000 in
theorem dL_law__2290 : DI mL_law_ 2290 (Instr.if_icmp .eq) 2293 2295 := ⟨5, by decide +kernel, rfl, rfl⟩
set_option maxRecDepth 100000 in
theorem dL_law__2293 : D mL_law_ 2293 (.iconst 0) 1 2294 := ⟨by decide +kernel, rfl⟩
set_option maxRecDepth 100000 in
theorem dL_law__2294 : D mL_law_ 2294 (.ireturn) 1 2295 := ⟨by decide +kernel, rfl⟩
set_option maxRecDepth 100000 in
theorem dL_law__2295 : D mL_law_ 2295 (.iload 5) 2 2297 := ⟨by decide +kernel, rfl⟩
set_option maxRecDepth 100000 in
theorem dL_law__2297 : DI mL_law_ 2297 (Instr.ifCond .ne) 2300 2312 := ⟨15, by decide +kernel, rfl, rfl⟩
set_option maxRecDepth 100000 in
theorem dL_law__2300 : D mL_law_ 2300 (.aload_n 3) 1 2301 := ⟨by decide +kernel, rfl⟩
set_option maxRecDepth 100000 in
theorem dL_law__2301 : D mL_law_ 2301 (.iconst 0) 1 2302 := ⟨by decide +kernel, rfl⟩
set_option maxRecDepth 100000 in
theorem dL_law__2302 : D mL_law_ 2302 (.laload) 1 2303 := ⟨by decide +kernel, rfl⟩
set_option maxRecDepth 100000 in
theorem dL_law__2303 : D mL_law_ 2303 (.iload 6) 2 2305 := ⟨by decide +kernel, rfl⟩
set_option maxRecDepth 100000 in
theorem dL_law__2305 : D mL_law_ 2305 (.i2l) 1 2306 := ⟨by decide +kernel, rfl⟩
set_option maxRecDepth 100000 in
theorem dL_law__2306 : D mL_law_ 2306 (.lcmp) 1 2307 := ⟨by decide +kernel, rfl⟩
set_option maxRecDepth 100000 in
theorem dL_law__2307 : DI mL_law_ 2307 (Instr.ifCond .eq) 2310 2312 := ⟨5, by decide +kernel, rfl, rfl⟩
set_option maxRecDepth 100000 in
theorem dL_law__2310 : D mL_law_ 2310 (.iconst 0) 1 2311 := ⟨by decide +kernel, rfl⟩
set_option maxRecDepth 100000 in
theorem dL_law__2311 : D mL_law_ 2311 (.ireturn) 1 2312 := ⟨by decide +kernel, rfl⟩
set_option maxRecDepth 100000 in
theorem dL_law__2312 : DI mL_law_ 2312 Instr.goto 2315 2859 := ⟨547, by decide +kernel, rfl, rfl⟩
set_option maxRecDepth 100000 in
theorem dL_law__2315 : D mL_law_ 2315 (.aload_n 1) 1 2316 := ⟨by decide +kernel, rfl⟩
set_option maxRecDepth 100000 in
theorem dL_law__2316 : D mL_law_ 2316 (.aload_n 0) 1 2317 := ⟨by decide +kernel, rfl⟩
set_option maxRecDepth 100000 in
theorem dL_law__2317 : D mL_law_ 2317 (.iload 4) 2 2319 := ⟨by decide +kernel, rfl⟩
set_option maxRecDepth 100000 in
theorem dL_law__2319 : D mL_law_ 2319 (.iconst 1) 1 2320 := ⟨by decide +kernel, rfl⟩
set_option maxRecDepth 100000 in
theorem dL_law__2320 : D mL_law_ 2320 (.iadd) 1 2321 := ⟨by decide +kernel, rfl⟩
set_option maxRecDepth 100000 in
theorem dL_law__2321 : D mL_law_ 2321 (.iaload) 1 2322 := ⟨by decide +kernel, rfl⟩
set_option maxRecDepth 100000 in
theorem dL_law__2322 : D mL_law_ 2322 (.aload_n 3) 1 2323 := ⟨by decide +kernel, rfl⟩
set_option maxRecDepth 100000 in
theorem dL_law__2323 : D mL_law_ 2323 (.invokestatic 275) 3 2326 := ⟨by decide +kernel, rfl⟩
set_option maxRecDepth 100000 in
theorem dL_law__2326 : D mL_law_ 2326 (.istore 5) 2 2328 := ⟨by decide +kernel, rfl⟩
set_option maxRecDepth 100000 in
theorem dL_law__2328 : D mL_law_ 2328 (.aload_n 2) 1 2329 := ⟨by decide +kernel, rfl⟩
set_option maxRecDepth 100000 in
theorem dL_law__2329 : D mL_law_ 2329 (.aload_n 0) 1 2330 := ⟨by decide +kernel, rfl⟩
set_option maxRecDepth 100000 in
theorem dL_law__2330 : D mL_law_ 2330 (.iload 4) 2 2332 := ⟨by decide +kernel, rfl⟩
set_option maxRecDepth 100000 in
theorem dL_law__2332 : D mL_law_ 2332 (.iconst 1) 1 2333 := ⟨by decide +kernel, rfl⟩
set_option maxRecDepth 100000 in
theorem dL_law__2333 : D mL_law_ 2333 (.iadd) 1 2334 := ⟨by decide +kernel, rfl⟩
set_option maxRecDepth 100000 in
theorem dL_law__2334 : D mL_law_ 2334 (.iaload) 1 2335 := ⟨by decide +kernel, rfl⟩
set_option maxRecDepth 100000 in
theorem dL_law__2335 : D mL_law_ 2335 (.invokevirtual 277) 3 2338 := ⟨by decide +kernel, rfl⟩
set_option maxRecDepth 100000 in
theorem dL_law__2338 : D mL_law_ 2338 (.istore 6) 2 2340 := ⟨by decide +kernel, rfl⟩
set_option maxRecDepth 100000 in
theorem dL_law__2340 : D mL_law_ 2340 (.aload_n 2) 1 2341 := ⟨by decide +kernel, rfl⟩
set_option maxRecDepth 100000 in
theorem dL_law__2341 : D mL_law_ 2341 (.invokevirtual 146) 3 2344 := ⟨by decide +kernel, rfl⟩
set_option maxRecDepth 100000 in
theorem dL_law__2344 : D mL_law_ 2344 (.iload 5) 2 2346 := ⟨by decide +kernel, rfl⟩
set_option maxRecDepth 100000 in
theorem dL_law__2346 : DI mL_law_ 2346 (Instr.if_icmp .eq) 2349 2351 := ⟨5, by decide +kernel, rfl, rfl⟩
set_option maxRecDepth 100000 in
theorem dL_law__2349 : D mL_law_ 2349 (.iconst 0) 1 2350 := ⟨by decide +kernel, rfl⟩
set_option maxRecDepth 100000 in
theorem dL_law__2350 : D mL_law_ 2350 (.ireturn) 1 2351 := ⟨by decide +kernel, rfl⟩
set_option maxRecDepth 100000 in
theorem dL_law__2351 : D mL_law_ 2351 (.iload 5) 2 2353 := ⟨by decide +kernel, rfl⟩
set_option maxRecDepth 100000 in
theorem dL_law__2353 : DI mL_law_ 2353 (Instr.ifCond .ne) 2356 2368 := ⟨15, by decide +kernel, rfl, rfl⟩
set_option maxRecDepth 100000 in
theorem dL_law__2356 : D mL_law_ 2356 (.aload_n 3) 1 2357 := ⟨by decide +kernel, rfl⟩
set_option maxRecDepth 100000 in
theorem dL_law__2357 : D mL_law_ 2357 (.iconst 0) 1 2358 := ⟨by decide +kernel, rfl⟩
set_option maxRecDepth 100000 in
theorem dL_law__2358 : D mL_law_ 2358 (.laload) 1 2359 := ⟨by decide +kernel, rfl⟩
set_option maxRecDepth 100000 in
theorem dL_law__2359 : D mL_law_ 2359 (.iload 6) 2 2361 := ⟨by decide +kernel, rfl⟩
set_option maxRecDepth 100000 in
theorem dL_law__2361 : D mL_law_ 2361 (.i2l) 1 2362 := ⟨by decide +kernel, rfl⟩
set_option maxRecDepth 100000 in
theorem dL_law__2362 : D mL_law_ 2362 (.lcmp) 1 2363 := ⟨by decide +kernel, rfl⟩
set_option maxRecDepth 100000 in
theorem dL_law__2363 : DI mL_law_ 2363 (Instr.ifCond .eq) 2366 2368 := ⟨5, by decide +kernel, rfl, rfl⟩
set_option maxRecDepth 100000 in
theorem dL_law__2366 : D mL_law_ 2366 (.iconst 0) 1 2367 := ⟨by decide +kernel, rfl⟩
set_option maxRecDepth 100000 in
theorem dL_law__2367 : D mL_law_ 2367 (.ireturn) 1 2368 := ⟨by decide +kernel, rfl⟩
set_option maxRecDepth 100000 in
theorem dL_law__2368 : DI mL_law_ 2368 Instr.goto 2371 2859 := ⟨491, by decide +kernel, rfl, rfl⟩
set_option maxRecDepth 100000 in
theorem dL_law__2371 : D mL_law_ 2371 (.aload_n 1) 1 2372 := ⟨by decide +kernel, rfl⟩
set_option maxRecDepth 100000 in
theorem dL_law__2372 : D mL_law_ 2372 (.invokevirtual 278) 3 2375 := ⟨by decide +kernel, rfl⟩
set_option maxRecDepth 100000 in
theorem dL_law__2375 : D mL_law_ 2375 (.aload_n 2) 1 2376 := ⟨by decide +kernel, rfl⟩
set_option maxRecDepth 100000 in
theorem dL_law__2376 : D mL_law_ 2376 (.invokevirtual 281) 3 2379 := ⟨by decide +kernel, rfl⟩
set_option maxRecDepth 100000 in
theorem dL_law__2379 : DI mL_law_ 2379 (Instr.if_icmp .eq) 2382 2859 := ⟨480, by decide +kernel, rfl, rfl⟩
set_option maxRecDepth 100000 in
theorem dL_law__2382 : D mL_law_ 2382 (.iconst 0) 1 2383 := ⟨by decide +kernel, rfl⟩
set_option maxRecDepth 100000 in
theorem dL_law__2383 : D mL_law_ 2383 (.ireturn) 1 2384 := ⟨by decide +kernel, rfl⟩
set_option maxRecDepth 100000 in
theorem dL_law__2384 : D mL_law_ 2384 (.aload_n 1) 1 2385 := ⟨by decide +kernel, rfl⟩
set_option maxRecDepth 100000 in
theorem dL_law__2385 : D mL_law_ 2385 (.aload_n 0) 1 2386 := ⟨by decide +kernel, rfl⟩
set_option maxRecDepth 100000 in
theorem dL_law__2386 : D mL_law_ 2386 (.iload 4) 2 2388 := ⟨by decide +kernel, rfl⟩
set_option maxRecDepth 100000 in
theorem dL_law__2388 : D mL_law_ 2388 (.iconst 1) 1 2389 := ⟨by decide +kernel, rfl⟩
set_option maxRecDepth 100000 in
theorem dL_law__2389 : D mL_law_ 2389 (.iadd) 1 2390 := ⟨by decide +kernel, rfl⟩
set_option maxRecDepth 100000 in
theorem dL_law__2390 : D mL_law_ 2390 (.iaload) 1 2391 := ⟨by decide +kernel, rfl⟩
set_option maxRecDepth 100000 in
theorem dL_law__2391 : D mL_law_ 2391 (.aload_n 0) 1 2392 := ⟨by decide +kernel, rfl⟩
set_option maxRecDepth 100000 in
theorem dL_law__2392 : D mL_law_ 2392 (.iload 4) 2 2394 := ⟨by decide +kernel, rfl⟩
set_option maxRecDepth 100000 in
theorem dL_law__2394 : D mL_law_ 2394 (.iconst 2) 1 2395 := ⟨by decide +kernel, rfl⟩
set_option maxRecDepth 100000 in
theorem dL_law__2395 : D mL_law_ 2395 (.iadd) 1 2396 := ⟨by decide +kernel, rfl⟩
set_option maxRecDepth 100000 in
theorem dL_law__2396 : D mL_law_ 2396 (.iaload) 1 2397 := ⟨by decide +kernel, rfl⟩
set_option maxRecDepth 100000 in
theorem dL_law__2397 : D mL_law_ 2397 (.aload_n 3) 1 2398 := ⟨by decide +kernel, rfl⟩
set_option maxRecDepth 100000 in
theorem dL_law__2398 : D mL_law_ 2398 (.invokestatic 282) 3 2401 := ⟨by decide +kernel, rfl⟩
set_option maxRecDepth 100000 in
theorem dL_law__2401 : D mL_law_ 2401 (.istore 5) 2 2403 := ⟨by decide +kernel, rfl⟩
set_option maxRecDepth 100000 in
theorem dL_law__2403 : D mL_law_ 2403 (.aload_n 2) 1 2404 := ⟨by decide +kernel, rfl⟩
set_option maxRecDepth 100000 in
theorem dL_law__2404 : D mL_law_ 2404 (.aload_n 0) 1 2405 := ⟨by decide +kernel, rfl⟩
set_option maxRecDepth 100000 in
theorem dL_law__2405 : D mL_law_ 2405 (.iload 4) 2 2407 := ⟨by decide +kernel, rfl⟩
set_option maxRecDepth 100000 in
theorem dL_law__2407 : D mL_law_ 2407 (.iconst 1) 1 2408 := ⟨by decide +kernel, rfl⟩
set_option maxRecDepth 100000 in
theorem dL_law__2408 : D mL_law_ 2408 (.iadd) 1 2409 := ⟨by decide +kernel, rfl⟩
set_option maxRecDepth 100000 in
theorem dL_law__2409 : D mL_law_ 2409 (.iaload) 1 2410 := ⟨by decide +kernel, rfl⟩
set_option maxRecDepth 100000 in
theorem dL_law__2410 : D mL_law_ 2410 (.aload_n 0) 1 2411 := ⟨by decide +kernel, rfl⟩
set_option maxRecDepth 100000 in
theorem dL_law__2411 : D mL_law_ 2411 (.iload 4) 2 2413 := ⟨by decide +kernel, rfl⟩
set_option maxRecDepth 100000 in
theorem dL_law__2413 : D mL_law_ 2413 (.iconst 2) 1 2414 := ⟨by decide +kernel, rfl⟩
set_option maxRecDepth 100000 in
theorem dL_law__2414 : D mL_law_ 2414 (.iadd) 1 2415 := ⟨by decide +kernel, rfl⟩
set_option maxRecDepth 100000 in
theorem dL_law__2415 : D mL_law_ 2415 (.iaload) 1 2416 := ⟨by decide +kernel, rfl⟩
set_option maxRecDepth 100000 in
theorem dL_law__2416 : D mL_law_ 2416 (.invokevirtual 284) 3 2419 := ⟨by decide +kernel, rfl⟩
set_option maxRecDepth 100000 in
theorem dL_law__2419 : D mL_law_ 2419 (.istore 6) 2 2421 := ⟨by decide +kernel, rfl⟩
set_option maxRecDepth 100000 in
theorem dL_law__2421 : D mL_law_ 2421 (.aload_n 2) 1 2422 := ⟨by decide +kernel, rfl⟩
set_option maxRecDepth 100000 in
theorem dL_law__2422 : D mL_law_ 2422 (.invokevirtual 146) 3 2425 := ⟨by decide +kernel, rfl⟩
set_option maxRecDepth 100000 in
theorem dL_law__2425 : D mL_law_ 2425 (.iload 5) 2 2427 := ⟨by decide +kernel, rfl⟩
set_option maxRecDepth 100000 in
theorem dL_law__2427 : DI mL_law_ 2427 (Instr.if_icmp .eq) 2430 2432 := ⟨5, by decide +kernel, rfl, rfl⟩
set_option maxRecDepth 100000 in
theorem dL_law__2430 : D mL_law_ 2430 (.iconst 0) 1 2431 := ⟨by decide +kernel, rfl⟩
set_option maxRecDepth 100000 in
theorem dL_law__2431 : D mL_law_ 2431 (.ireturn) 1 2432 := ⟨by decide +kernel, rfl⟩
set_option maxRecDepth 100000 in
theorem dL_law__2432 : D mL_law_ 2432 (.iload 5) 2 2434 := ⟨by decide +kernel, rfl⟩
set_option maxRecDepth 100000 in
theorem dL_law__2434 : DI mL_law_ 2434 (Instr.ifCond .ne) 2437 2449 := ⟨15, by decide +kernel, rfl, rfl⟩
set_option maxRecDepth 100000 in
theorem dL_law__2437 : D mL_law_ 2437 (.aload_n 3) 1 2438 := ⟨by decide +kernel, rfl⟩
set_option maxRecDepth 100000 in
theorem dL_law__2438 : D mL_law_ 2438 (.iconst 0) 1 2439 := ⟨by decide +kernel, rfl⟩
set_option maxRecDepth 100000 in
theorem dL_law__2439 : D mL_law_ 2439 (.laload) 1 2440 := ⟨by decide +kernel, rfl⟩
set_option maxRecDepth 100000 in
theorem dL_law__2440 : D mL_law_ 2440 (.iload 6) 2 2442 := ⟨by decide +kernel, rfl⟩
set_option maxRecDepth 100000 in
theorem dL_law__2442 : D mL_law_ 2442 (.i2l) 1 2443 := ⟨by decide +kernel, rfl⟩
set_option maxRecDepth 100000 in
theorem dL_law__2443 : D mL_law_ 2443 (.lcmp) 1 2444 := ⟨by decide +kernel, rfl⟩
set_option maxRecDepth 100000 in
theorem dL_law__2444 : DI mL_law_ 2444 (Instr.ifCond .eq) 2447 2449 := ⟨5, by decide +kernel, rfl, rfl⟩
set_option maxRecDepth 100000 in
theorem dL_law__2447 : D mL_law_ 2447 (.iconst 0) 1 2448 := ⟨by decide +kernel, rfl⟩
set_option maxRecDepth 100000 in
theorem dL_law__2448 : D mL_law_ 2448 (.ireturn) 1 2449 := ⟨by decide +kernel, rfl⟩
set_option maxRecDepth 100000 in
theorem dL_law__2449 : DI mL_law_ 2449 Instr.goto 2452 2859 := ⟨410, by decide +kernel, rfl, rfl⟩
set_option maxRecDepth 100000 in
theorem dL_law__2452 : D mL_law_ 2452 (.aload_n 1) 1 2453 := ⟨by decide +kernel, rfl⟩
set_option maxRecDepth 100000 in
theorem dL_law__2453 : D mL_law_ 2453 (.aload_n 0) 1 2454 := ⟨by decide +kernel, rfl⟩
set_option maxRecDepth 100000 in
theorem dL_law__2454 : D mL_law_ 2454 (.iload 4) 2 2456 := ⟨by decide +kernel, rfl⟩
set_option maxRecDepth 100000 in
theorem dL_law__2456 : D mL_law_ 2456 (.iconst 1) 1 2457 := ⟨by decide +kernel, rfl⟩
set_option maxRecDepth 100000 in
theorem dL_law__2457 : D mL_law_ 2457 (.iadd) 1 2458 := ⟨by decide +kernel, rfl⟩
set_option maxRecDepth 100000 in
theorem dL_law__2458 : D mL_law_ 2458 (.iaload) 1 2459 := ⟨by decide +kernel, rfl⟩
set_option maxRecDepth 100000 in
theorem dL_law__2459 : D mL_law_ 2459 (.aload_n 0) 1 2460 := ⟨by decide +kernel, rfl⟩
set_option maxRecDepth 100000 in
theorem dL_law__2460 : D mL_law_ 2460 (.iload 4) 2 2462 := ⟨by decide +kernel, rfl⟩
set_option maxRecDepth 100000 in
theorem dL_law__2462 : D mL_law_ 2462 (.iconst 2) 1 2463 := ⟨by decide +kernel, rfl⟩
set_option maxRecDepth 100000 in
theorem dL_law__2463 : D mL_law_ 2463 (.iadd) 1 2464 := ⟨by decide +kernel, rfl⟩
set_option maxRecDepth 100000 in
theorem dL_law__2464 : D mL_law_ 2464 (.iaload) 1 2465 := ⟨by decide +kernel, rfl⟩
set_option maxRecDepth 100000 in
theorem dL_law__2465 : DI mL_law_ 2465 (Instr.ifCond .eq) 2468 2472 := ⟨7, by decide +kernel, rfl, rfl⟩
set_option maxRecDepth 100000 in
theorem dL_law__2468 : D mL_law_ 2468 (.iconst 1) 1 2469 := ⟨by decide +kernel, rfl⟩
set_option maxRecDepth 100000 in
theorem dL_law__2469 : DI mL_law_ 2469 Instr.goto 2472 2473 := ⟨4, by decide +kernel, rfl, rfl⟩
set_option maxRecDepth 100000 in
theorem dL_law__2472 : D mL_law_ 2472 (.iconst 0) 1 2473 := ⟨by decide +kernel, rfl⟩
set_option maxRecDepth 100000 in
theorem dL_law__2473 : D mL_law_ 2473 (.aload_n 3) 1 2474 := ⟨by decide +kernel, rfl⟩
set_option maxRecDepth 100000 in
theorem dL_law__2474 : D mL_law_ 2474 (.invokestatic 285) 3 2477 := ⟨by decide +kernel, rfl⟩
set_option maxRecDepth 100000 in
theorem dL_law__2477 : D mL_law_ 2477 (.istore 5) 2 2479 := ⟨by decide +kernel, rfl⟩
set_option maxRecDepth 100000 in
theorem dL_law__2479 : D mL_law_ 2479 (.aload_n 2) 1 2480 := ⟨by decide +kernel, rfl⟩
set_option maxRecDepth 100000 in
theorem dL_law__2480 : D mL_law_ 2480 (.aload_n 0) 1 2481 := ⟨by decide +kernel, rfl⟩
set_option maxRecDepth 100000 in
theorem dL_law__2481 : D mL_law_ 2481 (.iload 4) 2 2483 := ⟨by decide +kernel, rfl⟩
set_option maxRecDepth 100000 in
theorem dL_law__2483 : D mL_law_ 2483 (.iconst 1) 1 2484 := ⟨by decide +kernel, rfl⟩
set_option maxRecDepth 100000 in
theorem dL_law__2484 : D mL_law_ 2484 (.iadd) 1 2485 := ⟨by decide +kernel, rfl⟩
set_option maxRecDepth 100000 in
theorem dL_law__2485 : D mL_law_ 2485 (.iaload) 1 2486 := ⟨by decide +kernel, rfl⟩
set_option maxRecDepth 100000 in
theorem dL_law__2486 : D mL_law_ 2486 (.aload_n 0) 1 2487 := ⟨by decide +kernel, rfl⟩
set_option maxRecDepth 100000 in
theorem dL_law__2487 : D mL_law_ 2487 (.iload 4) 2 2489 := ⟨by decide +kernel, rfl⟩
set_option maxRecDepth 100000 in
theorem dL_law__2489 : D mL_law_ 2489 (.iconst 2) 1 2490 := ⟨by decide +kernel, rfl⟩
set_option maxRecDepth 100000 in
theorem dL_law__2490 : D mL_law_ 2490 (.iadd) 1 2491 := ⟨by decide +kernel, rfl⟩
set_option maxRecDepth 100000 in
theorem dL_law__2491 : D mL_law_ 2491 (.iaload) 1 2492 := ⟨by decide +kernel, rfl⟩
set_option maxRecDepth 100000 in
theorem dL_law__2492 : DI mL_law_ 2492 (Instr.ifCond .eq) 2495 2499 := ⟨7, by decide +kernel, rfl, rfl⟩
set_option maxRecDepth 100000 in
theorem dL_law__2495 : D mL_law_ 2495 (.iconst 1) 1 2496 := ⟨by decide +kernel, rfl⟩
set_option maxRecDepth 100000 in
theorem dL_law__2496 : DI mL_law_ 2496 Instr.goto 2499 2500 := ⟨4, by decide +kernel, rfl, rfl⟩
set_option maxRecDepth 100000 in
theorem dL_law__2499 : D mL_law_ 2499 (.iconst 0) 1 2500 := ⟨by decide +kernel, rfl⟩
set_option maxRecDepth 100000 in
theorem dL_law__2500 : D mL_law_ 2500 (.invokevirtual 287) 3 2503 := ⟨by decide +kernel, rfl⟩
set_option maxRecDepth 100000 in
theorem dL_law__2503 : D mL_law_ 2503 (.istore 6) 2 2505 := ⟨by decide +kernel, rfl⟩
set_option maxRecDepth 100000 in
theorem dL_law__2505 : D mL_law_ 2505 (.aload_n 2) 1 2506 := ⟨by decide +kernel, rfl⟩
set_option maxRecDepth 100000 in
theorem dL_law__2506 : D mL_law_ 2506 (.invokevirtual 146) 3 2509 := ⟨by decide +kernel, rfl⟩
set_option maxRecDepth 100000 in
theorem dL_law__2509 : D mL_law_ 2509 (.iload 5) 2 2511 := ⟨by decide +kernel, rfl⟩
set_option maxRecDepth 100000 in
theorem dL_law__2511 : DI mL_law_ 2511 (Instr.if_icmp .eq) 2514 2516 := ⟨5, by decide +kernel, rfl, rfl⟩
set_option maxRecDepth 100000 in
theorem dL_law__2514 : D mL_law_ 2514 (.iconst 0) 1 2515 := ⟨by decide +kernel, rfl⟩
set_option maxRecDepth 100000 in
theorem dL_law__2515 : D mL_law_ 2515 (.ireturn) 1 2516 := ⟨by decide +kernel, rfl⟩
set_option maxRecDepth 100000 in
theorem dL_law__2516 : D mL_law_ 2516 (.iload 5) 2 2518 := ⟨by decide +kernel, rfl⟩
set_option maxRecDepth 100000 in
theorem dL_law__2518 : DI mL_law_ 2518 (Instr.ifCond .ne) 2521 2533 := ⟨15, by decide +kernel, rfl, rfl⟩
set_option maxRecDepth 100000 in
theorem dL_law__2521 : D mL_law_ 2521 (.aload_n 3) 1 2522 := ⟨by decide +kernel, rfl⟩
set_option maxRecDepth 100000 in
theorem dL_law__2522 : D mL_law_ 2522 (.iconst 0) 1 2523 := ⟨by decide +kernel, rfl⟩
set_option maxRecDepth 100000 in
theorem dL_law__2523 : D mL_law_ 2523 (.laload) 1 2524 := ⟨by decide +kernel, rfl⟩
set_option maxRecDepth 100000 in
theorem dL_law__2524 : D mL_law_ 2524 (.iload 6) 2 2526 := ⟨by decide +kernel, rfl⟩
set_option maxRecDepth 100000 in
theorem dL_law__2526 : D mL_law_ 2526 (.i2l) 1 2527 := ⟨by decide +kernel, rfl⟩
set_option maxRecDepth 100000 in
theorem dL_law__2527 : D mL_law_ 2527 (.lcmp) 1 2528 := ⟨by decide +kernel, rfl⟩
set_option maxRecDepth 100000 in
theorem dL_law__2528 : DI mL_law_ 2528 (Instr.ifCond .eq) 2531 2533 := ⟨5, by decide +kernel, rfl, rfl⟩
set_option maxRecDepth 100000 in
theorem dL_law__2531 : D mL_law_ 2531 (.iconst 0) 1 2532 := ⟨by decide +kernel, rfl⟩
set_option maxRecDepth 100000 in
theorem dL_law__2532 : D mL_law_ 2532 (.ireturn) 1 2533 := ⟨by decide +kernel, rfl⟩
set_option maxRecDepth 100000 in
theorem dL_law__2533 : DI mL_law_ 2533 Instr.goto 2536 2859 := ⟨326, by decide +kernel, rfl, rfl⟩
set_option maxRecDepth 100000 in
theorem dL_law__2536 : D mL_law_ 2536 (.aload_n 1) 1 2537 := ⟨by decide +kernel, rfl⟩
set_option maxRecDepth 100000 in
theorem dL_law__2537 : D mL_law_ 2537 (.aload_n 0) 1 2538 := ⟨by decide +kernel, rfl⟩
set_option maxRecDepth 100000 in
theorem dL_law__2538 : D mL_law_ 2538 (.iload 4) 2 2540 := ⟨by decide +kernel, rfl⟩
set_option maxRecDepth 100000 in
theorem dL_law__2540 : D mL_law_ 2540 (.iconst 1) 1 2541 := ⟨by decide +kernel, rfl⟩
set_option maxRecDepth 100000 in
theorem dL_law__2541 : D mL_law_ 2541 (.iadd) 1 2542 := ⟨by decide +kernel, rfl⟩
set_option maxRecDepth 100000 in
theorem dL_law__2542 : D mL_law_ 2542 (.iaload) 1 2543 := ⟨by decide +kernel, rfl⟩
set_option maxRecDepth 100000 in
theorem dL_law__2543 : D mL_law_ 2543 (.aload_n 0) 1 2544 := ⟨by decide +kernel, rfl⟩
set_option maxRecDepth 100000 in
theorem dL_law__2544 : D mL_law_ 2544 (.iload 4) 2 2546 := ⟨by decide +kernel, rfl⟩
set_option maxRecDepth 100000 in
theorem dL_law__2546 : D mL_law_ 2546 (.iconst 2) 1 2547 := ⟨by decide +kernel, rfl⟩
set_option maxRecDepth 100000 in
theorem dL_law__2547 : D mL_law_ 2547 (.iadd) 1 2548 := ⟨by decide +kernel, rfl⟩
set_option maxRecDepth 100000 in
theorem dL_law__2548 : D mL_law_ 2548 (.iaload) 1 2549 := ⟨by decide +kernel, rfl⟩
set_option maxRecDepth 100000 in
theorem dL_law__2549 : DI mL_law_ 2549 (Instr.ifCond .eq) 2552 2556 := ⟨7, by decide +kernel, rfl, rfl⟩
set_option maxRecDepth 100000 in
theorem dL_law__2552 : D mL_law_ 2552 (.iconst 1) 1 2553 := ⟨by decide +kernel, rfl⟩
set_option maxRecDepth 100000 in
theorem dL_law__2553 : DI mL_law_ 2553 Instr.goto 2556 2557 := ⟨4, by decide +kernel, rfl, rfl⟩
set_option maxRecDepth 100000 in
theorem dL_law__2556 : D mL_law_ 2556 (.iconst 0) 1 2557 := ⟨by decide +kernel, rfl⟩
set_option maxRecDepth 100000 in
theorem dL_law__2557 : D mL_law_ 2557 (.aload_n 3) 1 2558 := ⟨by decide +kernel, rfl⟩
set_option maxRecDepth 100000 in
theorem dL_law__2558 : D mL_law_ 2558 (.invokestatic 288) 3 2561 := ⟨by decide +kernel, rfl⟩
set_option maxRecDepth 100000 in
theorem dL_law__2561 : D mL_law_ 2561 (.istore 5) 2 2563 := ⟨by decide +kernel, rfl⟩
set_option maxRecDepth 100000 in
theorem dL_law__2563 : D mL_law_ 2563 (.aload_n 2) 1 2564 := ⟨by decide +kernel, rfl⟩
set_option maxRecDepth 100000 in
theorem dL_law__2564 : D mL_law_ 2564 (.aload_n 0) 1 2565 := ⟨by decide +kernel, rfl⟩
set_option maxRecDepth 100000 in
theorem dL_law__2565 : D mL_law_ 2565 (.iload 4) 2 2567 := ⟨by decide +kernel, rfl⟩
set_option maxRecDepth 100000 in
theorem dL_law__2567 : D mL_law_ 2567 (.iconst 1) 1 2568 := ⟨by decide +kernel, rfl⟩
set_option maxRecDepth 100000 in
theorem dL_law__2568 : D mL_law_ 2568 (.iadd) 1 2569 := ⟨by decide +kernel, rfl⟩
set_option maxRecDepth 100000 in
theorem dL_law__2569 : D mL_law_ 2569 (.iaload) 1 2570 := ⟨by decide +kernel, rfl⟩
set_option maxRecDepth 100000 in
theorem dL_law__2570 : D mL_law_ 2570 (.aload_n 0) 1 2571 := ⟨by decide +kernel, rfl⟩
set_option maxRecDepth 100000 in
theorem dL_law__2571 : D mL_law_ 2571 (.iload 4) 2 2573 := ⟨by decide +kernel, rfl⟩
set_option maxRecDepth 100000 in
theorem dL_law__2573 : D mL_law_ 2573 (.iconst 2) 1 2574 := ⟨by decide +kernel, rfl⟩
set_option maxRecDepth 100000 in
theorem dL_law__2574 : D mL_law_ 2574 (.iadd) 1 2575 := ⟨by decide +kernel, rfl⟩
set_option maxRecDepth 100000 in
theorem dL_law__2575 : D mL_law_ 2575 (.iaload) 1 2576 := ⟨by decide +kernel, rfl⟩
set_option maxRecDepth 100000 in
theorem dL_law__2576 : DI mL_law_ 2576 (Instr.ifCond .eq) 2579 2583 := ⟨7, by decide +kernel, rfl, rfl⟩
set_option maxRecDepth 100000 in
theorem dL_law__2579 : D mL_law_ 2579 (.iconst 1) 1 2580 := ⟨by decide +kernel, rfl⟩
set_option maxRecDepth 100000 in
theorem dL_law__2580 : DI mL_law_ 2580 Instr.goto 2583 2584 := ⟨4, by decide +kernel, rfl, rfl⟩
set_option maxRecDepth 100000 in
theorem dL_law__2583 : D mL_law_ 2583 (.iconst 0) 1 2584 := ⟨by decide +kernel, rfl⟩
set_option maxRecDepth 100000 in
theorem dL_law__2584 : D mL_law_ 2584 (.invokevirtual 290) 3 2587 := ⟨by decide +kernel, rfl⟩
set_option maxRecDepth 100000 in
theorem dL_law__2587 : D mL_law_ 2587 (.istore 6) 2 2589 := ⟨by decide +kernel, rfl⟩
set_option maxRecDepth 100000 in
theorem dL_law__2589 : D mL_law_ 2589 (.aload_n 2) 1 2590 := ⟨by decide +kernel, rfl⟩
set_option maxRecDepth 100000 in
theorem dL_law__2590 : D mL_law_ 2590 (.invokevirtual 146) 3 2593 := ⟨by decide +kernel, rfl⟩
set_option maxRecDepth 100000 in
theorem dL_law__2593 : D mL_law_ 2593 (.iload 5) 2 2595 := ⟨by decide +kernel, rfl⟩
set_option maxRecDepth 100000 in
theorem dL_law__2595 : DI mL_law_ 2595 (Instr.if_icmp .eq) 2598 2600 := ⟨5, by decide +kernel, rfl, rfl⟩
set_option maxRecDepth 100000 in
theorem dL_law__2598 : D mL_law_ 2598 (.iconst 0) 1 2599 := ⟨by decide +kernel, rfl⟩
set_option maxRecDepth 100000 in
theorem dL_law__2599 : D mL_law_ 2599 (.ireturn) 1 2600 := ⟨by decide +kernel, rfl⟩
set_option maxRecDepth 100000 in
theorem dL_law__2600 : D mL_law_ 2600 (.iload 5) 2 2602 := ⟨by decide +kernel, rfl⟩
set_option maxRecDepth 100000 in
theorem dL_law__2602 : DI mL_law_ 2602 (Instr.ifCond .ne) 2605 2617 := ⟨15, by decide +kernel, rfl, rfl⟩
set_option maxRecDepth 100000 in
theorem dL_law__2605 : D mL_law_ 2605 (.aload_n 3) 1 2606 := ⟨by decide +kernel, rfl⟩
set_option maxRecDepth 100000 in
theorem dL_law__2606 : D mL_law_ 2606 (.iconst 0) 1 2607 := ⟨by decide +kernel, rfl⟩
set_option maxRecDepth 100000 in
theorem dL_law__2607 : D mL_law_ 2607 (.laload) 1 2608 := ⟨by decide +kernel, rfl⟩
set_option maxRecDepth 100000 in
theorem dL_law__2608 : D mL_law_ 2608 (.iload 6) 2 2610 := ⟨by decide +kernel, rfl⟩
set_option maxRecDepth 100000 in
theorem dL_law__2610 : D mL_law_ 2610 (.i2l) 1 2611 := ⟨by decide +kernel, rfl⟩
set_option maxRecDepth 100000 in
theorem dL_law__2611 : D mL_law_ 2611 (.lcmp) 1 2612 := ⟨by decide +kernel, rfl⟩
set_option maxRecDepth 100000 in
theorem dL_law__2612 : DI mL_law_ 2612 (Instr.ifCond .eq) 2615 2617 := ⟨5, by decide +kernel, rfl, rfl⟩
set_option maxRecDepth 100000 in
theorem dL_law__2615 : D mL_law_ 2615 (.iconst 0) 1 2616 := ⟨by decide +kernel, rfl⟩
set_option maxRecDepth 100000 in
theorem dL_law__2616 : D mL_law_ 2616 (.ireturn) 1 2617 := ⟨by decide +kernel, rfl⟩
set_option maxRecDepth 100000 in
theorem dL_law__2617 : DI mL_law_ 2617 Instr.goto 2620 2859 := ⟨242, by decide +kernel, rfl, rfl⟩
set_option maxRecDepth 100000 in
theorem dL_law__2620 : D mL_law_ 2620 (.aload_n 1) 1 2621 := ⟨by decide +kernel, rfl⟩
set_option maxRecDepth 100000 in
theorem dL_law__2621 : D mL_law_ 2621 (.aload_n 0) 1 2622 := ⟨by decide +kernel, rfl⟩
set_option maxRecDepth 100000 in
theorem dL_law__2622 : D mL_law_ 2622 (.iload 4) 2 2624 := ⟨by decide +kernel, rfl⟩
set_option maxRecDepth 100000 in
theorem dL_law__2624 : D mL_law_ 2624 (.iconst 1) 1 2625 := ⟨by decide +kernel, rfl⟩
set_option maxRecDepth 100000 in
theorem dL_law__2625 : D mL_law_ 2625 (.iadd) 1 2626 := ⟨by decide +kernel, rfl⟩
set_option maxRecDepth 100000 in
theorem dL_law__2626 : D mL_law_ 2626 (.iaload) 1 2627 := ⟨by decide +kernel, rfl⟩
set_option maxRecDepth 100000 in
theorem dL_law__2627 : D mL_law_ 2627 (.aload_n 0) 1 2628 := ⟨by decide +kernel, rfl⟩
set_option maxRecDepth 100000 in
theorem dL_law__2628 : D mL_law_ 2628 (.iload 4) 2 2630 := ⟨by decide +kernel, rfl⟩
set_option maxRecDepth 100000 in
theorem dL_law__2630 : D mL_law_ 2630 (.iconst 2) 1 2631 := ⟨by decide +kernel, rfl⟩
set_option maxRecDepth 100000 in
theorem dL_law__2631 : D mL_law_ 2631 (.iadd) 1 2632 := ⟨by decide +kernel, rfl⟩
set_option maxRecDepth 100000 in
theorem dL_law__2632 : D mL_law_ 2632 (.iaload) 1 2633 := ⟨by decide +kernel, rfl⟩
set_option maxRecDepth 100000 in
theorem dL_law__2633 : DI mL_law_ 2633 (Instr.ifCond .eq) 2636 2640 := ⟨7, by decide +kernel, rfl, rfl⟩
set_option maxRecDepth 100000 in
theorem dL_law__2636 : D mL_law_ 2636 (.iconst 1) 1 2637 := ⟨by decide +kernel, rfl⟩
set_option maxRecDepth 100000 in
theorem dL_law__2637 : DI mL_law_ 2637 Instr.goto 2640 2641 := ⟨4, by decide +kernel, rfl, rfl⟩
set_option maxRecDepth 100000 in
theorem dL_law__2640 : D mL_law_ 2640 (.iconst 0) 1 2641 := ⟨by decide +kernel, rfl⟩
set_option maxRecDepth 100000 in
theorem dL_law__2641 : D mL_law_ 2641 (.aload_n 3) 1 2642 := ⟨by decide +kernel, rfl⟩
set_option maxRecDepth 100000 in
theorem dL_law__2642 : D mL_law_ 2642 (.invokestatic 291) 3 2645 := ⟨by decide +kernel, rfl⟩
set_option maxRecDepth 100000 in
theorem dL_law__2645 : D mL_law_ 2645 (.istore 5) 2 2647 := ⟨by decide +kernel, rfl⟩
set_option maxRecDepth 100000 in
theorem dL_law__2647 : D mL_law_ 2647 (.aload_n 2) 1 2648 := ⟨by decide +kernel, rfl⟩
set_option maxRecDepth 100000 in
theorem dL_law__2648 : D mL_law_ 2648 (.aload_n 0) 1 2649 := ⟨by decide +kernel, rfl⟩
set_option maxRecDepth 100000 in
theorem dL_law__2649 : D mL_law_ 2649 (.iload 4) 2 2651 := ⟨by decide +kernel, rfl⟩
set_option maxRecDepth 100000 in
theorem dL_law__2651 : D mL_law_ 2651 (.iconst 1) 1 2652 := ⟨by decide +kernel, rfl⟩
set_option maxRecDepth 100000 in
theorem dL_law__2652 : D mL_law_ 2652 (.iadd) 1 2653 := ⟨by decide +kernel, rfl⟩
set_option maxRecDepth 100000 in
theorem dL_law__2653 : D mL_law_ 2653 (.iaload) 1 2654 := ⟨by decide +kernel, rfl⟩
set_option maxRecDepth 100000 in
theorem dL_law__2654 : D mL_law_ 2654 (.aload_n 0) 1 2655 := ⟨by decide +kernel, rfl⟩
set_option maxRecDepth 100000 in
theorem dL_law__2655 : D mL_law_ 2655 (.iload 4) 2 2657 := ⟨by decide +kernel, rfl⟩
set_option maxRecDepth 100000 in
theorem dL_law__2657 : D mL_law_ 2657 (.iconst 2) 1 2658 := ⟨by decide +kernel, rfl⟩
set_option maxRecDepth 100000 in
theorem dL_law__2658 : D mL_law_ 2658 (.iadd) 1 2659 := ⟨by decide +kernel, rfl⟩
set_option maxRecDepth 100000 in
theorem dL_law__2659 : D mL_law_ 2659 (.iaload) 1 2660 := ⟨by decide +kernel, rfl⟩
set_option maxRecDepth 100000 in
theorem dL_law__2660 : DI mL_law_ 2660 (Instr.ifCond .eq) 2663 2667 := ⟨7, by decide +kernel, rfl, rfl⟩
set_option maxRecDepth 100000 in
theorem dL_law__2663 : D mL_law_ 2663 (.iconst 1) 1 2664 := ⟨by decide +kernel, rfl⟩
set_option maxRecDepth 100000 in
theorem dL_law__2664 : DI mL_law_ 2664 Instr.goto 2667 2668 := ⟨4, by decide +kernel, rfl, rfl⟩
set_option maxRecDepth 100000 in
theorem dL_law__2667 : D mL_law_ 2667 (.iconst 0) 1 2668 := ⟨by decide +kernel, rfl⟩
set_option maxRecDepth 100000 in
theorem dL_law__2668 : D mL_law_ 2668 (.invokevirtual 293) 3 2671 := ⟨by decide +kernel, rfl⟩
set_option maxRecDepth 100000 in
theorem dL_law__2671 : D mL_law_ 2671 (.istore 6) 2 2673 := ⟨by decide +kernel, rfl⟩
set_option maxRecDepth 100000 in
theorem dL_law__2673 : D mL_law_ 2673 (.aload_n 2) 1 2674 := ⟨by decide +kernel, rfl⟩
set_option maxRecDepth 100000 in
theorem dL_law__2674 : D mL_law_ 2674 (.invokevirtual 146) 3 2677 := ⟨by decide +kernel, rfl⟩
set_option maxRecDepth 100000 in
theorem dL_law__2677 : D mL_law_ 2677 (.iload 5) 2 2679 := ⟨by decide +kernel, rfl⟩
set_option maxRecDepth 100000 in
theorem dL_law__2679 : DI mL_law_ 2679 (Instr.if_icmp .eq) 2682 2684 := ⟨5, by decide +kernel, rfl, rfl⟩
set_option maxRecDepth 100000 in
theorem dL_law__2682 : D mL_law_ 2682 (.iconst 0) 1 2683 := ⟨by decide +kernel, rfl⟩
set_option maxRecDepth 100000 in
theorem dL_law__2683 : D mL_law_ 2683 (.ireturn) 1 2684 := ⟨by decide +kernel, rfl⟩
set_option maxRecDepth 100000 in
theorem dL_law__2684 : D mL_law_ 2684 (.iload 5) 2 2686 := ⟨by decide +kernel, rfl⟩
set_option maxRecDepth 100000 in
theorem dL_law__2686 : DI mL_law_ 2686 (Instr.ifCond .ne) 2689 2701 := ⟨15, by decide +kernel, rfl, rfl⟩
set_option maxRecDepth 100000 in
theorem dL_law__2689 : D mL_law_ 2689 (.aload_n 3) 1 2690 := ⟨by decide +kernel, rfl⟩
set_option maxRecDepth 100000 in
theorem dL_law__2690 : D mL_law_ 2690 (.iconst 0) 1 2691 := ⟨by decide +kernel, rfl⟩
set_option maxRecDepth 100000 in
theorem dL_law__2691 : D mL_law_ 2691 (.laload) 1 2692 := ⟨by decide +kernel, rfl⟩
set_option maxRecDepth 100000 in
theorem dL_law__2692 : D mL_law_ 2692 (.iload 6) 2 2694 := ⟨by decide +kernel, rfl⟩
set_option maxRecDepth 100000 in
theorem dL_law__2694 : D mL_law_ 2694 (.i2l) 1 2695 := ⟨by decide +kernel, rfl⟩
set_option maxRecDepth 100000 in
theorem dL_law__2695 : D mL_law_ 2695 (.lcmp) 1 2696 := ⟨by decide +kernel, rfl⟩
set_option maxRecDepth 100000 in
theorem dL_law__2696 : DI mL_law_ 2696 (Instr.ifCond .eq) 2699 2701 := ⟨5, by decide +kernel, rfl, rfl⟩
set_option maxRecDepth 100000 in
theorem dL_law__2699 : D mL_law_ 2699 (.iconst 0) 1 2700 := ⟨by decide +kernel, rfl⟩
set_option maxRecDepth 100000 in
theorem dL_law__2700 : D mL_law_ 2700 (.ireturn) 1 2701 := ⟨by decide +kernel, rfl⟩
set_option maxRecDepth 100000 in
theorem dL_law__2701 : DI mL_law_ 2701 Instr.goto 2704 2859 := ⟨158, by decide +kernel, rfl, rfl⟩
set_option maxRecDepth 100000 in
theorem dL_law__2704 : D mL_law_ 2704 (.aload_n 1) 1 2705 := ⟨by decide +kernel, rfl⟩
set_option maxRecDepth 100000 in
theorem dL_law__2705 : D mL_law_ 2705 (.aload_n 0) 1 2706 := ⟨by decide +kernel, rfl⟩
set_option maxRecDepth 100000 in
theorem dL_law__2706 : D mL_law_ 2706 (.iload 4) 2 2708 := ⟨by decide +kernel, rfl⟩
set_option maxRecDepth 100000 in
theorem dL_law__2708 : D mL_law_ 2708 (.iconst 1) 1 2709 := ⟨by decide +kernel, rfl⟩
set_option maxRecDepth 100000 in
theorem dL_law__2709 : D mL_law_ 2709 (.iadd) 1 2710 := ⟨by decide +kernel, rfl⟩
set_option maxRecDepth 100000 in
theorem dL_law__2710 : D mL_law_ 2710 (.iaload) 1 2711 := ⟨by decide +kernel, rfl⟩
set_option maxRecDepth 100000 in
theorem dL_law__2711 : D mL_law_ 2711 (.aload_n 0) 1 2712 := ⟨by decide +kernel, rfl⟩
set_option maxRecDepth 100000 in
theorem dL_law__2712 : D mL_law_ 2712 (.iload 4) 2 2714 := ⟨by decide +kernel, rfl⟩
set_option maxRecDepth 100000 in
theorem dL_law__2714 : D mL_law_ 2714 (.iconst 2) 1 2715 := ⟨by decide +kernel, rfl⟩
set_option maxRecDepth 100000 in
theorem dL_law__2715 : D mL_law_ 2715 (.iadd) 1 2716 := ⟨by decide +kernel, rfl⟩
set_option maxRecDepth 100000 in
theorem dL_law__2716 : D mL_law_ 2716 (.iaload) 1 2717 := ⟨by decide +kernel, rfl⟩
set_option maxRecDepth 100000 in
theorem dL_law__2717 : D mL_law_ 2717 (.aload_n 3) 1 2718 := ⟨by decide +kernel, rfl⟩
set_option maxRecDepth 100000 in
theorem dL_law__2718 : D mL_law_ 2718 (.invokestatic 294) 3 2721 := ⟨by decide +kernel, rfl⟩
set_option maxRecDepth 100000 in
theorem dL_law__2721 : D mL_law_ 2721 (.istore 5) 2 2723 := ⟨by decide +kernel, rfl⟩
set_option maxRecDepth 100000 in
theorem dL_law__2723 : D mL_law_ 2723 (.aload_n 2) 1 2724 := ⟨by decide +kernel, rfl⟩
set_option maxRecDepth 100000 in
theorem dL_law__2724 : D mL_law_ 2724 (.aload_n 0) 1 2725 := ⟨by decide +kernel, rfl⟩
set_option maxRecDepth 100000 in
theorem dL_law__2725 : D mL_law_ 2725 (.iload 4) 2 2727 := ⟨by decide +kernel, rfl⟩
set_option maxRecDepth 100000 in
theorem dL_law__2727 : D mL_law_ 2727 (.iconst 1) 1 2728 := ⟨by decide +kernel, rfl⟩
set_option maxRecDepth 100000 in
theorem dL_law__2728 : D mL_law_ 2728 (.iadd) 1 2729 := ⟨by decide +kernel, rfl⟩
set_option maxRecDepth 100000 in
theorem dL_law__2729 : D mL_law_ 2729 (.iaload) 1 2730 := ⟨by decide +kernel, rfl⟩
set_option maxRecDepth 100000 in
theorem dL_law__2730 : D mL_law_ 2730 (.aload_n 0) 1 2731 := ⟨by decide +kernel, rfl⟩
set_option maxRecDepth 100000 in
theorem dL_law__2731 : D mL_law_ 2731 (.iload 4) 2 2733 := ⟨by decide +kernel, rfl⟩
set_option maxRecDepth 100000 in
theorem dL_law__2733 : D mL_law_ 2733 (.iconst 2) 1 2734 := ⟨by decide +kernel, rfl⟩
set_option maxRecDepth 100000 in
theorem dL_law__2734 : D mL_law_ 2734 (.iadd) 1 2735 := ⟨by decide +kernel, rfl⟩
set_option maxRecDepth 100000 in
theorem dL_law__2735 : D mL_law_ 2735 (.iaload) 1 2736 := ⟨by decide +kernel, rfl⟩
set_option maxRecDepth 100000 in
theorem dL_law__2736 : D mL_law_ 2736 (.invokevirtual 296) 3 2739 := ⟨by decide +kernel, rfl⟩
set_option maxRecDepth 100000 in
theorem dL_law__2739 : D mL_law_ 2739 (.istore 6) 2 2741 := ⟨by decide +kernel, rfl⟩
set_option maxRecDepth 100000 in
theorem dL_law__2741 : D mL_law_ 2741 (.aload_n 2) 1 2742 := ⟨by decide +kernel, rfl⟩
set_option maxRecDepth 100000 in
theorem dL_law__2742 : D mL_law_ 2742 (.invokevirtual 146) 3 2745 := ⟨by decide +kernel, rfl⟩
set_option maxRecDepth 100000 in
theorem dL_law__2745 : D mL_law_ 2745 (.iload 5) 2 2747 := ⟨by decide +kernel, rfl⟩
set_option maxRecDepth 100000 in
theorem dL_law__2747 : DI mL_law_ 2747 (Instr.if_icmp .eq) 2750 2752 := ⟨5, by decide +kernel, rfl, rfl⟩
set_option maxRecDepth 100000 in
theorem dL_law__2750 : D mL_law_ 2750 (.iconst 0) 1 2751 := ⟨by decide +kernel, rfl⟩
set_option maxRecDepth 100000 in
theorem dL_law__2751 : D mL_law_ 2751 (.ireturn) 1 2752 := ⟨by decide +kernel, rfl⟩
set_option maxRecDepth 100000 in
theorem dL_law__2752 : D mL_law_ 2752 (.iload 5) 2 2754 := ⟨by decide +kernel, rfl⟩
set_option maxRecDepth 100000 in
theorem dL_law__2754 : DI mL_law_ 2754 (Instr.ifCond .ne) 2757 2769 := ⟨15, by decide +kernel, rfl, rfl⟩
set_option maxRecDepth 100000 in
theorem dL_law__2757 : D mL_law_ 2757 (.aload_n 3) 1 2758 := ⟨by decide +kernel, rfl⟩
set_option maxRecDepth 100000 in
theorem dL_law__2758 : D mL_law_ 2758 (.iconst 0) 1 2759 := ⟨by decide +kernel, rfl⟩
set_option maxRecDepth 100000 in
theorem dL_law__2759 : D mL_law_ 2759 (.laload) 1 2760 := ⟨by decide +kernel, rfl⟩
set_option maxRecDepth 100000 in
theorem dL_law__2760 : D mL_law_ 2760 (.iload 6) 2 2762 := ⟨by decide +kernel, rfl⟩
set_option maxRecDepth 100000 in
theorem dL_law__2762 : D mL_law_ 2762 (.i2l) 1 2763 := ⟨by decide +kernel, rfl⟩
set_option maxRecDepth 100000 in
theorem dL_law__2763 : D mL_law_ 2763 (.lcmp) 1 2764 := ⟨by decide +kernel, rfl⟩
set_option maxRecDepth 100000 in
theorem dL_law__2764 : DI mL_law_ 2764 (Instr.ifCond .eq) 2767 2769 := ⟨5, by decide +kernel, rfl, rfl⟩
set_option maxRecDepth 100000 in
theorem dL_law__2767 : D mL_law_ 2767 (.iconst 0) 1 2768 := ⟨by decide +kernel, rfl⟩
set_option maxRecDepth 100000 in
theorem dL_law__2768 : D mL_law_ 2768 (.ireturn) 1 2769 := ⟨by decide +kernel, rfl⟩
set_option maxRecDepth 100000 in
theorem dL_law__2769 : DI mL_law_ 2769 Instr.goto 2772 2859 := ⟨90, by decide +kernel, rfl, rfl⟩
set_option maxRecDepth 100000 in
theorem dL_law__2772 : D mL_law_ 2772 (.aload_n 1) 1 2773 := ⟨by decide +kernel, rfl⟩
set_option maxRecDepth 100000 in
theorem dL_law__2773 : D mL_law_ 2773 (.aload_n 0) 1 2774 := ⟨by decide +kernel, rfl⟩
set_option maxRecDepth 100000 in
theorem dL_law__2774 : D mL_law_ 2774 (.iload 4) 2 2776 := ⟨by decide +kernel, rfl⟩
set_option maxRecDepth 100000 in
theorem dL_law__2776 : D mL_law_ 2776 (.iconst 1) 1 2777 := ⟨by decide +kernel, rfl⟩
set_option maxRecDepth 100000 in
theorem dL_law__2777 : D mL_law_ 2777 (.iadd) 1 2778 := ⟨by decide +kernel, rfl⟩
set_option maxRecDepth 100000 in
theorem dL_law__2778 : D mL_law_ 2778 (.iaload) 1 2779 := ⟨by decide +kernel, rfl⟩
set_option maxRecDepth 100000 in
theorem dL_law__2779 : D mL_law_ 2779 (.invokevirtual 297) 3 2782 := ⟨by decide +kernel, rfl⟩
set_option maxRecDepth 100000 in
theorem dL_law__2782 : D mL_law_ 2782 (.aload_n 2) 1 2783 := ⟨by decide +kernel, rfl⟩
set_option maxRecDepth 100000 in
theorem dL_law__2783 : D mL_law_ 2783 (.aload_n 0) 1 2784 := ⟨by decide +kernel, rfl⟩
set_option maxRecDepth 100000 in
theorem dL_law__2784 : D mL_law_ 2784 (.iload 4) 2 2786 := ⟨by decide +kernel, rfl⟩
set_option maxRecDepth 100000 in
theorem dL_law__2786 : D mL_law_ 2786 (.iconst 1) 1 2787 := ⟨by decide +kernel, rfl⟩
set_option maxRecDepth 100000 in
theorem dL_law__2787 : D mL_law_ 2787 (.iadd) 1 2788 := ⟨by decide +kernel, rfl⟩
set_option maxRecDepth 100000 in
theorem dL_law__2788 : D mL_law_ 2788 (.iaload) 1 2789 := ⟨by decide +kernel, rfl⟩
set_option maxRecDepth 100000 in
theorem dL_law__2789 : D mL_law_ 2789 (.invokevirtual 300) 3 2792 := ⟨by decide +kernel, rfl⟩
set_option maxRecDepth 100000 in
theorem dL_law__2792 : DI mL_law_ 2792 (Instr.if_icmp .eq) 2795 2859 := ⟨67, by decide +kernel, rfl, rfl⟩
set_option maxRecDepth 100000 in
theorem dL_law__2795 : D mL_law_ 2795 (.iconst 0) 1 2796 := ⟨by decide +kernel, rfl⟩
set_option maxRecDepth 100000 in
theorem dL_law__2796 : D mL_law_ 2796 (.ireturn) 1 2797 := ⟨by decide +kernel, rfl⟩
set_option maxRecDepth 100000 in
theorem dL_law__2797 : D mL_law_ 2797 (.aload_n 1) 1 2798 := ⟨by decide +kernel, rfl⟩
set_option maxRecDepth 100000 in
theorem dL_law__2798 : D mL_law_ 2798 (.invokevirtual 301) 3 2801 := ⟨by decide +kernel, rfl⟩
set_option maxRecDepth 100000 in
theorem dL_law__2801 : D mL_law_ 2801 (.aload_n 2) 1 2802 := ⟨by decide +kernel, rfl⟩
set_option maxRecDepth 100000 in
theorem dL_law__2802 : D mL_law_ 2802 (.invokevirtual 305) 3 2805 := ⟨by decide +kernel, rfl⟩
set_option maxRecDepth 100000 in
theorem dL_law__2805 : DI mL_law_ 2805 (Instr.if_icmp .eq) 2808 2859 := ⟨54, by decide +kernel, rfl, rfl⟩
set_option maxRecDepth 100000 in
theorem dL_law__2808 : D mL_law_ 2808 (.iconst 0) 1 2809 := ⟨by decide +kernel, rfl⟩
set_option maxRecDepth 100000 in
theorem dL_law__2809 : D mL_law_ 2809 (.ireturn) 1 2810 := ⟨by decide +kernel, rfl⟩
set_option maxRecDepth 100000 in
theorem dL_law__2810 : D mL_law_ 2810 (.aload_n 1) 1 2811 := ⟨by decide +kernel, rfl⟩
set_option maxRecDepth 100000 in
theorem dL_law__2811 : D mL_law_ 2811 (.invokevirtual 306) 3 2814 := ⟨by decide +kernel, rfl⟩
set_option maxRecDepth 100000 in
theorem dL_law__2814 : D mL_law_ 2814 (.aload_n 2) 1 2815 := ⟨by decide +kernel, rfl⟩
set_option maxRecDepth 100000 in
theorem dL_law__2815 : D mL_law_ 2815 (.invokevirtual 309) 3 2818 := ⟨by decide +kernel, rfl⟩
set_option maxRecDepth 100000 in
theorem dL_law__2818 : DI mL_law_ 2818 Instr.goto 2821 2859 := ⟨41, by decide +kernel, rfl, rfl⟩
set_option maxRecDepth 100000 in
theorem dL_law__2821 : D mL_law_ 2821 (.aload_n 1) 1 2822 := ⟨by decide +kernel, rfl⟩
set_option maxRecDepth 100000 in
theorem dL_law__2822 : D mL_law_ 2822 (.invokevirtual 310) 3 2825 := ⟨by decide +kernel, rfl⟩
set_option maxRecDepth 100000 in
theorem dL_law__2825 : D mL_law_ 2825 (.aload_n 2) 1 2826 := ⟨by decide +kernel, rfl⟩
set_option maxRecDepth 100000 in
theorem dL_law__2826 : D mL_law_ 2826 (.invokevirtual 313) 3 2829 := ⟨by decide +kernel, rfl⟩
set_option maxRecDepth 100000 in
theorem dL_law__2829 : DI mL_law_ 2829 (Instr.if_icmp .eq) 2832 2859 := ⟨30, by decide +kernel, rfl, rfl⟩
set_option maxRecDepth 100000 in
theorem dL_law__2832 : D mL_law_ 2832 (.iconst 0) 1 2833 := ⟨by decide +kernel, rfl⟩
set_option maxRecDepth 100000 in
theorem dL_law__2833 : D mL_law_ 2833 (.ireturn) 1 2834 := ⟨by decide +kernel, rfl⟩
set_option maxRecDepth 100000 in
theorem dL_law__2834 : D mL_law_ 2834 (.aload_n 1) 1 2835 := ⟨by decide +kernel, rfl⟩
set_option maxRecDepth 100000 in
theorem dL_law__2835 : D mL_law_ 2835 (.aload_n 0) 1 2836 := ⟨by decide +kernel, rfl⟩
set_option maxRecDepth 100000 in
theorem dL_law__2836 : D mL_law_ 2836 (.iload 4) 2 2838 := ⟨by decide +kernel, rfl⟩
set_option maxRecDepth 100000 in
theorem dL_law__2838 : D mL_law_ 2838 (.iconst 1) 1 2839 := ⟨by decide +kernel, rfl⟩
set_option maxRecDepth 100000 in
theorem dL_law__2839 : D mL_law_ 2839 (.iadd) 1 2840 := ⟨by decide +kernel, rfl⟩
set_option maxRecDepth 100000 in
theorem dL_law__2840 : D mL_law_ 2840 (.iaload) 1 2841 := ⟨by decide +kernel, rfl⟩
set_option maxRecDepth 100000 in
theorem dL_law__2841 : D mL_law_ 2841 (.invokevirtual 314) 3 2844 := ⟨by decide +kernel, rfl⟩
set_option maxRecDepth 100000 in
theorem dL_law__2844 : D mL_law_ 2844 (.aload_n 2) 1 2845 := ⟨by decide +kernel, rfl⟩
set_option maxRecDepth 100000 in
theorem dL_law__2845 : D mL_law_ 2845 (.aload_n 0) 1 2846 := ⟨by decide +kernel, rfl⟩
set_option maxRecDepth 100000 in
theorem dL_law__2846 : D mL_law_ 2846 (.iload 4) 2 2848 := ⟨by decide +kernel, rfl⟩
set_option maxRecDepth 100000 in
theorem dL_law__2848 : D mL_law_ 2848 (.iconst 1) 1 2849 := ⟨by decide +kernel, rfl⟩
set_option maxRecDepth 100000 in
theorem dL_law__2849 : D mL_law_ 2849 (.iadd) 1 2850 := ⟨by decide +kernel, rfl⟩
set_option maxRecDepth 100000 in
theorem dL_law__2850 : D mL_law_ 2850 (.iaload) 1 2851 := ⟨by decide +kernel, rfl⟩
set_option maxRecDepth 100000 in
theorem dL_law__2851 : D mL_law_ 2851 (.invokevirtual 317) 3 2854 := ⟨by decide +kernel, rfl⟩
set_option maxRecDepth 100000 in
theorem dL_law__2854 : DI mL_law_ 2854 (Instr.if_icmp .eq) 2857 2859 := ⟨5, by decide +kernel, rfl, rfl⟩
set_option maxRecDepth 100000 in
theorem dL_law__2857 : D mL_law_ 2857 (.iconst 0) 1 2858 := ⟨by decide +kernel, rfl⟩
set_option maxRecDepth 100000 in
theorem dL_law__2858 : D mL_law_ 2858 (.ireturn) 1 2859 := ⟨by decide +kernel, rfl⟩
set_option maxRecDepth 100000 in
theorem dL_law__2859 : D mL_law_ 2859 (.iinc 4 6) 3 2862 := ⟨by decide +kernel, rfl⟩
set_option maxRecDepth 100000 in
theorem dL_law__2862 : DI mL_law_ 2862 Instr.goto 2865 23 := ⟨(-2839), by decide +kernel, rfl, rfl⟩
set_option maxRecDepth 100000 in
theorem dL_law__2865 : D mL_law_ 2865 (.iconst 1) 1 2866 := ⟨by decide +kernel, rfl⟩
set_option maxRecDepth 100000 in
theorem dL_law__2866 : D mL_law_ 2866 (.ireturn) 1 2867 := ⟨by decide +kernel, rfl⟩
