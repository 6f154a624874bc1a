set_option maxRecDepth 100000 in
theorem dX9_drunk_k0 : (decode cX9_drunk 248 = .ok (.bipush 6, 2)) ∧ (decode cX9_drunk 250 = .ok (.iload 9, 2)) ∧ (decode cX9_drunk 252 = .ok (.imul, 1)) ∧ (decode cX9_drunk 253 = .ok (.iload 11, 2)) ∧ (decode cX9_drunk 255 = .ok (.iadd, 1)) ∧ (decode cX9_drunk 256 = .ok (.iaload, 1)) := by decide +kernel
theorem dX9_drunk_248 : decode cX9_drunk 248 = .ok (.bipush 6, 2) := dX9_drunk_k0.1
theorem dX9_drunk_250 : decode cX9_drunk 250 = .ok (.iload 9, 2) := dX9_drunk_k0.2.1
theorem dX9_drunk_252 : decode cX9_drunk 252 = .ok (.imul, 1) := dX9_drunk_k0.2.2.1
theorem dX9_drunk_253 : decode cX9_drunk 253 = .ok (.iload 11, 2) := dX9_drunk_k0.2.2.2.1
theorem dX9_drunk_255 : decode cX9_drunk 255 = .ok (.iadd, 1) := dX9_drunk_k0.2.2.2.2.1
theorem dX9_drunk_256 : decode cX9_drunk 256 = .ok (.iaload, 1) := dX9_drunk_k0.2.2.2.2.2
set_option maxRecDepth 100000 in
theorem dX9_drunk_k1 : (decode cX9_drunk 257 = .ok (.ifCond .le 25, 3)) ∧ (decode cX9_drunk 260 = .ok (.aload_n 0, 1)) ∧ (decode cX9_drunk 261 = .ok (.getfield 72, 3)) ∧ (decode cX9_drunk 264 = .ok (.iload 9, 2)) ∧ (decode cX9_drunk 266 = .ok (.laload, 1)) ∧ (decode cX9_drunk 267 = .ok (.bipush 60, 2)) := by decide +kernel
theorem dX9_drunk_257 : decode cX9_drunk 257 = .ok (.ifCond .le 25, 3) := dX9_drunk_k1.1
theorem dX9_drunk_260 : decode cX9_drunk 260 = .ok (.aload_n 0, 1) := dX9_drunk_k1.2.1
theorem dX9_drunk_261 : decode cX9_drunk 261 = .ok (.getfield 72, 3) := dX9_drunk_k1.2.2.1
theorem dX9_drunk_264 : decode cX9_drunk 264 = .ok (.iload 9, 2) := dX9_drunk_k1.2.2.2.1
theorem dX9_drunk_266 : decode cX9_drunk 266 = .ok (.laload, 1) := dX9_drunk_k1.2.2.2.2.1
theorem dX9_drunk_267 : decode cX9_drunk 267 = .ok (.bipush 60, 2) := dX9_drunk_k1.2.2.2.2.2
set_option maxRecDepth 100000 in
theorem dX9_drunk_k2 : (decode cX9_drunk 269 = .ok (.bipush 10, 2)) ∧ (decode cX9_drunk 271 = .ok (.iload_n 3, 1)) ∧ (decode cX9_drunk 272 = .ok (.isub, 1)) ∧ (decode cX9_drunk 273 = .ok (.imul, 1)) ∧ (decode cX9_drunk 274 = .ok (.iload 10, 2)) ∧ (decode cX9_drunk 276 = .ok (.idiv, 1)) := by decide +kernel
theorem dX9_drunk_269 : decode cX9_drunk 269 = .ok (.bipush 10, 2) := dX9_drunk_k2.1
theorem dX9_drunk_271 : decode cX9_drunk 271 = .ok (.iload_n 3, 1) := dX9_drunk_k2.2.1
theorem dX9_drunk_272 : decode cX9_drunk 272 = .ok (.isub, 1) := dX9_drunk_k2.2.2.1
theorem dX9_drunk_273 : decode cX9_drunk 273 = .ok (.imul, 1) := dX9_drunk_k2.2.2.2.1
theorem dX9_drunk_274 : decode cX9_drunk 274 = .ok (.iload 10, 2) := dX9_drunk_k2.2.2.2.2.1
theorem dX9_drunk_276 : decode cX9_drunk 276 = .ok (.idiv, 1) := dX9_drunk_k2.2.2.2.2.2
set_option maxRecDepth 100000 in
theorem dX9_drunk_k3 : (decode cX9_drunk 277 = .ok (.i2l, 1)) ∧ (decode cX9_drunk 278 = .ok (.lmul, 1)) ∧ (decode cX9_drunk 279 = .ok (.goto 4, 3)) ∧ (decode cX9_drunk 282 = .ok (.lconst 0, 1)) ∧ (decode cX9_drunk 283 = .ok (.ladd, 1)) ∧ (decode cX9_drunk 284 = .ok (.lastore, 1)) := by decide +kernel
theorem dX9_drunk_277 : decode cX9_drunk 277 = .ok (.i2l, 1) := dX9_drunk_k3.1
theorem dX9_drunk_278 : decode cX9_drunk 278 = .ok (.lmul, 1) := dX9_drunk_k3.2.1
theorem dX9_drunk_279 : decode cX9_drunk 279 = .ok (.goto 4, 3) := dX9_drunk_k3.2.2.1
theorem dX9_drunk_282 : decode cX9_drunk 282 = .ok (.lconst 0, 1) := dX9_drunk_k3.2.2.2.1
theorem dX9_drunk_283 : decode cX9_drunk 283 = .ok (.ladd, 1) := dX9_drunk_k3.2.2.2.2.1
theorem dX9_drunk_284 : decode cX9_drunk 284 = .ok (.lastore, 1) := dX9_drunk_k3.2.2.2.2.2
set_option maxRecDepth 100000 in
theorem dX9_drunk_k4 : (decode cX9_drunk 285 = .ok (.iinc 11 1, 3)) ∧ (decode cX9_drunk 288 = .ok (.goto (-61), 3)) ∧ (decode cX9_drunk 291 = .ok (.iinc 9 1, 3)) ∧ (decode cX9_drunk 294 = .ok (.goto (-160), 3)) ∧ (decode cX9_drunk 297 = .ok (.iconst 0, 1)) ∧ (decode cX9_drunk 298 = .ok (.istore 9, 2)) := by decide +kernel
theorem dX9_drunk_285 : decode cX9_drunk 285 = .ok (.iinc 11 1, 3) := dX9_drunk_k4.1
theorem dX9_drunk_288 : decode cX9_drunk 288 = .ok (.goto (-61), 3) := dX9_drunk_k4.2.1
theorem dX9_drunk_291 : decode cX9_drunk 291 = .ok (.iinc 9 1, 3) := dX9_drunk_k4.2.2.1
theorem dX9_drunk_294 : decode cX9_drunk 294 = .ok (.goto (-160), 3) := dX9_drunk_k4.2.2.2.1
theorem dX9_drunk_297 : decode cX9_drunk 297 = .ok (.iconst 0, 1) := dX9_drunk_k4.2.2.2.2.1
theorem dX9_drunk_298 : decode cX9_drunk 298 = .ok (.istore 9, 2) := dX9_drunk_k4.2.2.2.2.2
set_option maxRecDepth 100000 in
theorem dX9_drunk_k5 : (decode cX9_drunk 300 = .ok (.iload 9, 2)) ∧ (decode cX9_drunk 302 = .ok (.bipush 6, 2)) ∧ (decode cX9_drunk 304 = .ok (.if_icmp .ge 23, 3)) ∧ (decode cX9_drunk 307 = .ok (.aload_n 0, 1)) ∧ (decode cX9_drunk 308 = .ok (.getfield 72, 3)) ∧ (decode cX9_drunk 311 = .ok (.iload 9, 2)) := by decide +kernel
theorem dX9_drunk_300 : decode cX9_drunk 300 = .ok (.iload 9, 2) := dX9_drunk_k5.1
theorem dX9_drunk_302 : decode cX9_drunk 302 = .ok (.bipush 6, 2) := dX9_drunk_k5.2.1
theorem dX9_drunk_304 : decode cX9_drunk 304 = .ok (.if_icmp .ge 23, 3) := dX9_drunk_k5.2.2.1
theorem dX9_drunk_307 : decode cX9_drunk 307 = .ok (.aload_n 0, 1) := dX9_drunk_k5.2.2.2.1
theorem dX9_drunk_308 : decode cX9_drunk 308 = .ok (.getfield 72, 3) := dX9_drunk_k5.2.2.2.2.1
theorem dX9_drunk_311 : decode cX9_drunk 311 = .ok (.iload 9, 2) := dX9_drunk_k5.2.2.2.2.2
set_option maxRecDepth 100000 in
theorem dX9_drunk_k6 : (decode cX9_drunk 313 = .ok (.aload_n 0, 1)) ∧ (decode cX9_drunk 314 = .ok (.getfield 75, 3)) ∧ (decode cX9_drunk 317 = .ok (.iload 9, 2)) ∧ (decode cX9_drunk 319 = .ok (.laload, 1)) ∧ (decode cX9_drunk 320 = .ok (.lastore, 1)) ∧ (decode cX9_drunk 321 = .ok (.iinc 9 1, 3)) := by decide +kernel
theorem dX9_drunk_313 : decode cX9_drunk 313 = .ok (.aload_n 0, 1) := dX9_drunk_k6.1
theorem dX9_drunk_314 : decode cX9_drunk 314 = .ok (.getfield 75, 3) := dX9_drunk_k6.2.1
theorem dX9_drunk_317 : decode cX9_drunk 317 = .ok (.iload 9, 2) := dX9_drunk_k6.2.2.1
theorem dX9_drunk_319 : decode cX9_drunk 319 = .ok (.laload, 1) := dX9_drunk_k6.2.2.2.1
theorem dX9_drunk_320 : decode cX9_drunk 320 = .ok (.lastore, 1) := dX9_drunk_k6.2.2.2.2.1
theorem dX9_drunk_321 : decode cX9_drunk 321 = .ok (.iinc 9 1, 3) := dX9_drunk_k6.2.2.2.2.2
set_option maxRecDepth 100000 in
theorem dX9_drunk_k7 : (decode cX9_drunk 324 = .ok (.goto (-24), 3)) ∧ (decode cX9_drunk 327 = .ok (.lload 6, 2)) ∧ (decode cX9_drunk 329 = .ok (.ldc2_w 225, 3)) ∧ (decode cX9_drunk 332 = .ok (.lmul, 1)) ∧ (decode cX9_drunk 333 = .ok (.lstore 6, 2)) ∧ (decode cX9_drunk 335 = .ok (.iinc 8 1, 3)) := by decide +kernel
theorem dX9_drunk_324 : decode cX9_drunk 324 = .ok (.goto (-24), 3) := dX9_drunk_k7.1
theorem dX9_drunk_327 : decode cX9_drunk 327 = .ok (.lload 6, 2) := dX9_drunk_k7.2.1
theorem dX9_drunk_329 : decode cX9_drunk 329 = .ok (.ldc2_w 225, 3) := dX9_drunk_k7.2.2.1
theorem dX9_drunk_332 : decode cX9_drunk 332 = .ok (.lmul, 1) := dX9_drunk_k7.2.2.2.1
theorem dX9_drunk_333 : decode cX9_drunk 333 = .ok (.lstore 6, 2) := dX9_drunk_k7.2.2.2.2.1
theorem dX9_drunk_335 : decode cX9_drunk 335 = .ok (.iinc 8 1, 3) := dX9_drunk_k7.2.2.2.2.2
set_option maxRecDepth 100000 in
theorem dX9_drunk_k8 : (decode cX9_drunk 338 = .ok (.goto (-238), 3)) ∧ (decode cX9_drunk 341 = .ok (.aload_n 0, 1)) ∧ (decode cX9_drunk 342 = .ok (.getfield 72, 3)) ∧ (decode cX9_drunk 345 = .ok (.iload_n 2, 1)) ∧ (decode cX9_drunk 346 = .ok (.laload, 1)) ∧ (decode cX9_drunk 347 = .ok (.lstore 8, 2)) := by decide +kernel
theorem dX9_drunk_338 : decode cX9_drunk 338 = .ok (.goto (-238), 3) := dX9_drunk_k8.1
theorem dX9_drunk_341 : decode cX9_drunk 341 = .ok (.aload_n 0, 1) := dX9_drunk_k8.2.1
theorem dX9_drunk_342 : decode cX9_drunk 342 = .ok (.getfield 72, 3) := dX9_drunk_k8.2.2.1
theorem dX9_drunk_345 : decode cX9_drunk 345 = .ok (.iload_n 2, 1) := dX9_drunk_k8.2.2.2.1
theorem dX9_drunk_346 : decode cX9_drunk 346 = .ok (.laload, 1) := dX9_drunk_k8.2.2.2.2.1
theorem dX9_drunk_347 : decode cX9_drunk 347 = .ok (.lstore 8, 2) := dX9_drunk_k8.2.2.2.2.2
set_option maxRecDepth 100000 in
theorem dX9_drunk_k9 : (decode cX9_drunk 349 = .ok (.lload 6, 2)) ∧ (decode cX9_drunk 351 = .ok (.lstore 10, 2)) ∧ (decode cX9_drunk 353 = .ok (.lload 10, 2)) ∧ (decode cX9_drunk 355 = .ok (.lconst 0, 1)) ∧ (decode cX9_drunk 356 = .ok (.lcmp, 1)) ∧ (decode cX9_drunk 357 = .ok (.ifCond .eq 21, 3)) := by decide +kernel
theorem dX9_drunk_349 : decode cX9_drunk 349 = .ok (.lload 6, 2) := dX9_drunk_k9.1
theorem dX9_drunk_351 : decode cX9_drunk 351 = .ok (.lstore 10, 2) := dX9_drunk_k9.2.1
theorem dX9_drunk_353 : decode cX9_drunk 353 = .ok (.lload 10, 2) := dX9_drunk_k9.2.2.1
theorem dX9_drunk_355 : decode cX9_drunk 355 = .ok (.lconst 0, 1) := dX9_drunk_k9.2.2.2.1
theorem dX9_drunk_356 : decode cX9_drunk 356 = .ok (.lcmp, 1) := dX9_drunk_k9.2.2.2.2.1
theorem dX9_drunk_357 : decode cX9_drunk 357 = .ok (.ifCond .eq 21, 3) := dX9_drunk_k9.2.2.2.2.2
set_option maxRecDepth 100000 in
theorem dX9_drunk_k10 : (decode cX9_drunk 360 = .ok (.lload 8, 2)) ∧ (decode cX9_drunk 362 = .ok (.lload 10, 2)) ∧ (decode cX9_drunk 364 = .ok (.lrem, 1)) ∧ (decode cX9_drunk 365 = .ok (.lstore 12, 2)) ∧ (decode cX9_drunk 367 = .ok (.lload 10, 2)) ∧ (decode cX9_drunk 369 = .ok (.lstore 8, 2)) := by decide +kernel
theorem dX9_drunk_360 : decode cX9_drunk 360 = .ok (.lload 8, 2) := dX9_drunk_k10.1
theorem dX9_drunk_362 : decode cX9_drunk 362 = .ok (.lload 10, 2) := dX9_drunk_k10.2.1
theorem dX9_drunk_364 : decode cX9_drunk 364 = .ok (.lrem, 1) := dX9_drunk_k10.2.2.1
theorem dX9_drunk_365 : decode cX9_drunk 365 = .ok (.lstore 12, 2) := dX9_drunk_k10.2.2.2.1
theorem dX9_drunk_367 : decode cX9_drunk 367 = .ok (.lload 10, 2) := dX9_drunk_k10.2.2.2.2.1
theorem dX9_drunk_369 : decode cX9_drunk 369 = .ok (.lstore 8, 2) := dX9_drunk_k10.2.2.2.2.2
set_option maxRecDepth 100000 in
theorem dX9_drunk_k11 : (decode cX9_drunk 371 = .ok (.lload 12, 2)) ∧ (decode cX9_drunk 373 = .ok (.lstore 10, 2)) ∧ (decode cX9_drunk 375 = .ok (.goto (-22), 3)) ∧ (decode cX9_drunk 378 = .ok (.iload 5, 2)) ∧ (decode cX9_drunk 380 = .ok (.ifCond .ne 15, 3)) ∧ (decode cX9_drunk 383 = .ok (.aload_n 0, 1)) := by decide +kernel
theorem dX9_drunk_371 : decode cX9_drunk 371 = .ok (.lload 12, 2) := dX9_drunk_k11.1
theorem dX9_drunk_373 : decode cX9_drunk 373 = .ok (.lstore 10, 2) := dX9_drunk_k11.2.1
theorem dX9_drunk_375 : decode cX9_drunk 375 = .ok (.goto (-22), 3) := dX9_drunk_k11.2.2.1
theorem dX9_drunk_378 : decode cX9_drunk 378 = .ok (.iload 5, 2) := dX9_drunk_k11.2.2.2.1
theorem dX9_drunk_380 : decode cX9_drunk 380 = .ok (.ifCond .ne 15, 3) := dX9_drunk_k11.2.2.2.2.1
theorem dX9_drunk_383 : decode cX9_drunk 383 = .ok (.aload_n 0, 1) := dX9_drunk_k11.2.2.2.2.2
set_option maxRecDepth 100000 in
theorem dX9_drunk_k12 : (decode cX9_drunk 384 = .ok (.getfield 72, 3)) ∧ (decode cX9_drunk 387 = .ok (.iload_n 2, 1)) ∧ (decode cX9_drunk 388 = .ok (.laload, 1)) ∧ (decode cX9_drunk 389 = .ok (.lload 8, 2)) ∧ (decode cX9_drunk 391 = .ok (.ldiv, 1)) ∧ (decode cX9_drunk 392 = .ok (.goto 8, 3)) := by decide +kernel
theorem dX9_drunk_384 : decode cX9_drunk 384 = .ok (.getfield 72, 3) := dX9_drunk_k12.1
theorem dX9_drunk_387 : decode cX9_drunk 387 = .ok (.iload_n 2, 1) := dX9_drunk_k12.2.1
theorem dX9_drunk_388 : decode cX9_drunk 388 = .ok (.laload, 1) := dX9_drunk_k12.2.2.1
theorem dX9_drunk_389 : decode cX9_drunk 389 = .ok (.lload 8, 2) := dX9_drunk_k12.2.2.2.1
theorem dX9_drunk_391 : decode cX9_drunk 391 = .ok (.ldiv, 1) := dX9_drunk_k12.2.2.2.2.1
theorem dX9_drunk_392 : decode cX9_drunk 392 = .ok (.goto 8, 3) := dX9_drunk_k12.2.2.2.2.2
set_option maxRecDepth 100000 in
theorem dX9_drunk_k13 : (decode cX9_drunk 395 = .ok (.lload 6, 2)) ∧ (decode cX9_drunk 397 = .ok (.lload 8, 2)) ∧ (decode cX9_drunk 399 = .ok (.ldiv, 1)) ∧ (decode cX9_drunk 400 = .ok (.lreturn, 1)) := by decide +kernel
theorem dX9_drunk_395 : decode cX9_drunk 395 = .ok (.lload 6, 2) := dX9_drunk_k13.1
theorem dX9_drunk_397 : decode cX9_drunk 397 = .ok (.lload 8, 2) := dX9_drunk_k13.2.1
theorem dX9_drunk_399 : decode cX9_drunk 399 = .ok (.ldiv, 1) := dX9_drunk_k13.2.2.1
theorem dX9_drunk_400 : decode cX9_drunk 400 = .ok (.lreturn, 1) := dX9_drunk_k13.2.2.2
set_option maxRecDepth 100000 in
theorem dX9_year_k14 : (decode cX9_year 0 = .ok (.iload_n 1, 1)) ∧ (decode cX9_year 1 = .ok (.iconst 0, 1)) ∧ (decode cX9_year 2 = .ok (.sipush 9999, 3)) ∧ (decode cX9_year 5 = .ok (.invokestatic 94, 3)) ∧ (decode cX9_year 8 = .ok (.ifCond .eq 22, 3)) ∧ (decode cX9_year 11 = .ok (.iload_n 2, 1)) := by decide +kernel
theorem dX9_year_0 : decode cX9_year 0 = .ok (.iload_n 1, 1) := dX9_year_k14.1
theorem dX9_year_1 : decode cX9_year 1 = .ok (.iconst 0, 1) := dX9_year_k14.2.1
theorem dX9_year_2 : decode cX9_year 2 = .ok (.sipush 9999, 3) := dX9_year_k14.2.2.1
theorem dX9_year_5 : decode cX9_year 5 = .ok (.invokestatic 94, 3) := dX9_year_k14.2.2.2.1
theorem dX9_year_8 : decode cX9_year 8 = .ok (.ifCond .eq 22, 3) := dX9_year_k14.2.2.2.2.1
theorem dX9_year_11 : decode cX9_year 11 = .ok (.iload_n 2, 1) := dX9_year_k14.2.2.2.2.2
set_option maxRecDepth 100000 in
theorem dX9_year_k15 : (decode cX9_year 12 = .ok (.iconst 1, 1)) ∧ (decode cX9_year 13 = .ok (.bipush 99, 2)) ∧ (decode cX9_year 15 = .ok (.invokestatic 94, 3)) ∧ (decode cX9_year 18 = .ok (.ifCond .eq 12, 3)) ∧ (decode cX9_year 21 = .ok (.iload_n 3, 1)) ∧ (decode cX9_year 22 = .ok (.iconst 0, 1)) := by decide +kernel
theorem dX9_year_12 : decode cX9_year 12 = .ok (.iconst 1, 1) := dX9_year_k15.1
theorem dX9_year_13 : decode cX9_year 13 = .ok (.bipush 99, 2) := dX9_year_k15.2.1
theorem dX9_year_15 : decode cX9_year 15 = .ok (.invokestatic 94, 3) := dX9_year_k15.2.2.1
theorem dX9_year_18 : decode cX9_year 18 = .ok (.ifCond .eq 12, 3) := dX9_year_k15.2.2.2.1
theorem dX9_year_21 : decode cX9_year 21 = .ok (.iload_n 3, 1) := dX9_year_k15.2.2.2.2.1
theorem dX9_year_22 : decode cX9_year 22 = .ok (.iconst 0, 1) := dX9_year_k15.2.2.2.2.2
set_option maxRecDepth 100000 in
theorem dX9_year_k16 : (decode cX9_year 23 = .ok (.iconst 2, 1)) ∧ (decode cX9_year 24 = .ok (.invokestatic 94, 3)) ∧ (decode cX9_year 27 = .ok (.ifCond .ne 6, 3)) ∧ (decode cX9_year 30 = .ok (.bipush (-2), 2)) ∧ (decode cX9_year 32 = .ok (.ireturn, 1)) ∧ (decode cX9_year 33 = .ok (.aload_n 0, 1)) := by decide +kernel
theorem dX9_year_23 : decode cX9_year 23 = .ok (.iconst 2, 1) := dX9_year_k16.1
theorem dX9_year_24 : decode cX9_year 24 = .ok (.invokestatic 94, 3) := dX9_year_k16.2.1
theorem dX9_year_27 : decode cX9_year 27 = .ok (.ifCond .ne 6, 3) := dX9_year_k16.2.2.1
theorem dX9_year_30 : decode cX9_year 30 = .ok (.bipush (-2), 2) := dX9_year_k16.2.2.2.1
theorem dX9_year_32 : decode cX9_year 32 = .ok (.ireturn, 1) := dX9_year_k16.2.2.2.2.1
theorem dX9_year_33 : decode cX9_year 33 = .ok (.aload_n 0, 1) := dX9_year_k16.2.2.2.2.2
set_option maxRecDepth 100000 in
theorem dX9_year_k17 : (decode cX9_year 34 = .ok (.invokevirtual 157, 3)) ∧ (decode cX9_year 37 = .ok (.iload_n 1, 1)) ∧ (decode cX9_year 38 = .ok (.istore 4, 2)) ∧ (decode cX9_year 40 = .ok (.iconst 0, 1)) ∧ (decode cX9_year 41 = .ok (.istore 5, 2)) ∧ (decode cX9_year 43 = .ok (.iconst 0, 1)) := by decide +kernel
theorem dX9_year_34 : decode cX9_year 34 = .ok (.invokevirtual 157, 3) := dX9_year_k17.1
theorem dX9_year_37 : decode cX9_year 37 = .ok (.iload_n 1, 1) := dX9_year_k17.2.1
theorem dX9_year_38 : decode cX9_year 38 = .ok (.istore 4, 2) := dX9_year_k17.2.2.1
theorem dX9_year_40 : decode cX9_year 40 = .ok (.iconst 0, 1) := dX9_year_k17.2.2.2.1
theorem dX9_year_41 : decode cX9_year 41 = .ok (.istore 5, 2) := dX9_year_k17.2.2.2.2.1
theorem dX9_year_43 : decode cX9_year 43 = .ok (.iconst 0, 1) := dX9_year_k17.2.2.2.2.2
set_option maxRecDepth 100000 in
theorem dX9_year_k18 : (decode cX9_year 44 = .ok (.istore 6, 2)) ∧ (decode cX9_year 46 = .ok (.iconst 0, 1)) ∧ (decode cX9_year 47 = .ok (.istore 7, 2)) ∧ (decode cX9_year 49 = .ok (.iload 7, 2)) ∧ (decode cX9_year 51 = .ok (.iload_n 2, 1)) ∧ (decode cX9_year 52 = .ok (.if_icmp .ge 86, 3)) := by decide +kernel
theorem dX9_year_44 : decode cX9_year 44 = .ok (.istore 6, 2) := dX9_year_k18.1
theorem dX9_year_46 : decode cX9_year 46 = .ok (.iconst 0, 1) := dX9_year_k18.2.1
theorem dX9_year_47 : decode cX9_year 47 = .ok (.istore 7, 2) := dX9_year_k18.2.2.1
theorem dX9_year_49 : decode cX9_year 49 = .ok (.iload 7, 2) := dX9_year_k18.2.2.2.1
theorem dX9_year_51 : decode cX9_year 51 = .ok (.iload_n 2, 1) := dX9_year_k18.2.2.2.2.1
theorem dX9_year_52 : decode cX9_year 52 = .ok (.if_icmp .ge 86, 3) := dX9_year_k18.2.2.2.2.2
set_option maxRecDepth 100000 in
theorem dX9_year_k19 : (decode cX9_year 55 = .ok (.bipush 75, 2)) ∧ (decode cX9_year 57 = .ok (.iload 4, 2)) ∧ (decode cX9_year 59 = .ok (.imul, 1)) ∧ (decode cX9_year 60 = .ok (.bipush 74, 2)) ∧ (decode cX9_year 62 = .ok (.iadd, 1)) ∧ (decode cX9_year 63 = .ok (.ldc 227, 2)) := by decide +kernel
theorem dX9_year_55 : decode cX9_year 55 = .ok (.bipush 75, 2) := dX9_year_k19.1
theorem dX9_year_57 : decode cX9_year 57 = .ok (.iload 4, 2) := dX9_year_k19.2.1
theorem dX9_year_59 : decode cX9_year 59 = .ok (.imul, 1) := dX9_year_k19.2.2.1
theorem dX9_year_60 : decode cX9_year 60 = .ok (.bipush 74, 2) := dX9_year_k19.2.2.2.1
theorem dX9_year_62 : decode cX9_year 62 = .ok (.iadd, 1) := dX9_year_k19.2.2.2.2.1
theorem dX9_year_63 : decode cX9_year 63 = .ok (.ldc 227, 2) := dX9_year_k19.2.2.2.2.2
set_option maxRecDepth 100000 in
theorem dX9_year_k20 : (decode cX9_year 65 = .ok (.irem, 1)) ∧ (decode cX9_year 66 = .ok (.istore 4, 2)) ∧ (decode cX9_year 68 = .ok (.iload 4, 2)) ∧ (decode cX9_year 70 = .ok (.bipush 8, 2)) ∧ (decode cX9_year 72 = .ok (.irem, 1)) ∧ (decode cX9_year 73 = .ok (.istore 8, 2)) := by decide +kernel
theorem dX9_year_65 : decode cX9_year 65 = .ok (.irem, 1) := dX9_year_k20.1
theorem dX9_year_66 : decode cX9_year 66 = .ok (.istore 4, 2) := dX9_year_k20.2.1
theorem dX9_year_68 : decode cX9_year 68 = .ok (.iload 4, 2) := dX9_year_k20.2.2.1
theorem dX9_year_70 : decode cX9_year 70 = .ok (.bipush 8, 2) := dX9_year_k20.2.2.2.1
theorem dX9_year_72 : decode cX9_year 72 = .ok (.irem, 1) := dX9_year_k20.2.2.2.2.1
theorem dX9_year_73 : decode cX9_year 73 = .ok (.istore 8, 2) := dX9_year_k20.2.2.2.2.2
set_option maxRecDepth 100000 in
theorem dX9_year_k21 : (decode cX9_year 75 = .ok (.iload 4, 2)) ∧ (decode cX9_year 77 = .ok (.bipush 8, 2)) ∧ (decode cX9_year 79 = .ok (.idiv, 1)) ∧ (decode cX9_year 80 = .ok (.bipush 8, 2)) ∧ (decode cX9_year 82 = .ok (.irem, 1)) ∧ (decode cX9_year 83 = .ok (.istore 9, 2)) := by decide +kernel
theorem dX9_year_75 : decode cX9_year 75 = .ok (.iload 4, 2) := dX9_year_k21.1
theorem dX9_year_77 : decode cX9_year 77 = .ok (.bipush 8, 2) := dX9_year_k21.2.1
theorem dX9_year_79 : decode cX9_year 79 = .ok (.idiv, 1) := dX9_year_k21.2.2.1
theorem dX9_year_80 : decode cX9_year 80 = .ok (.bipush 8, 2) := dX9_year_k21.2.2.2.1
theorem dX9_year_82 : decode cX9_year 82 = .ok (.irem, 1) := dX9_year_k21.2.2.2.2.1
theorem dX9_year_83 : decode cX9_year 83 = .ok (.istore 9, 2) := dX9_year_k21.2.2.2.2.2
set_option maxRecDepth 100000 in
theorem dX9_year_k22 : (decode cX9_year 85 = .ok (.iload 8, 2)) ∧ (decode cX9_year 87 = .ok (.iload 9, 2)) ∧ (decode cX9_year 89 = .ok (.if_icmp .eq 34, 3)) ∧ (decode cX9_year 92 = .ok (.aload_n 0, 1)) ∧ (decode cX9_year 93 = .ok (.iload 8, 2)) ∧ (decode cX9_year 95 = .ok (.iload 9, 2)) := by decide +kernel
theorem dX9_year_85 : decode cX9_year 85 = .ok (.iload 8, 2) := dX9_year_k22.1
theorem dX9_year_87 : decode cX9_year 87 = .ok (.iload 9, 2) := dX9_year_k22.2.1
theorem dX9_year_89 : decode cX9_year 89 = .ok (.if_icmp .eq 34, 3) := dX9_year_k22.2.2.1
theorem dX9_year_92 : decode cX9_year 92 = .ok (.aload_n 0, 1) := dX9_year_k22.2.2.2.1
theorem dX9_year_93 : decode cX9_year 93 = .ok (.iload 8, 2) := dX9_year_k22.2.2.2.2.1
theorem dX9_year_95 : decode cX9_year 95 = .ok (.iload 9, 2) := dX9_year_k22.2.2.2.2.2
set_option maxRecDepth 100000 in
theorem dX9_year_k23 : (decode cX9_year 97 = .ok (.invokevirtual 176, 3)) ∧ (decode cX9_year 100 = .ok (.ifCond .ne 23, 3)) ∧ (decode cX9_year 103 = .ok (.aload_n 0, 1)) ∧ (decode cX9_year 104 = .ok (.iload 8, 2)) ∧ (decode cX9_year 106 = .ok (.iload 9, 2)) ∧ (decode cX9_year 108 = .ok (.iconst 1, 1)) := by decide +kernel
theorem dX9_year_97 : decode cX9_year 97 = .ok (.invokevirtual 176, 3) := dX9_year_k23.1
theorem dX9_year_100 : decode cX9_year 100 = .ok (.ifCond .ne 23, 3) := dX9_year_k23.2.1
theorem dX9_year_103 : decode cX9_year 103 = .ok (.aload_n 0, 1) := dX9_year_k23.2.2.1
theorem dX9_year_104 : decode cX9_year 104 = .ok (.iload 8, 2) := dX9_year_k23.2.2.2.1
theorem dX9_year_106 : decode cX9_year 106 = .ok (.iload 9, 2) := dX9_year_k23.2.2.2.2.1
theorem dX9_year_108 : decode cX9_year 108 = .ok (.iconst 1, 1) := dX9_year_k23.2.2.2.2.2
set_option maxRecDepth 100000 in
theorem dX9_year_k24 : (decode cX9_year 109 = .ok (.iload 4, 2)) ∧ (decode cX9_year 111 = .ok (.bipush 64, 2)) ∧ (decode cX9_year 113 = .ok (.idiv, 1)) ∧ (decode cX9_year 114 = .ok (.iconst 5, 1)) ∧ (decode cX9_year 115 = .ok (.irem, 1)) ∧ (decode cX9_year 116 = .ok (.iadd, 1)) := by decide +kernel
theorem dX9_year_109 : decode cX9_year 109 = .ok (.iload 4, 2) := dX9_year_k24.1
theorem dX9_year_111 : decode cX9_year 111 = .ok (.bipush 64, 2) := dX9_year_k24.2.1
theorem dX9_year_113 : decode cX9_year 113 = .ok (.idiv, 1) := dX9_year_k24.2.2.1
theorem dX9_year_114 : decode cX9_year 114 = .ok (.iconst 5, 1) := dX9_year_k24.2.2.2.1
theorem dX9_year_115 : decode cX9_year 115 = .ok (.irem, 1) := dX9_year_k24.2.2.2.2.1
theorem dX9_year_116 : decode cX9_year 116 = .ok (.iadd, 1) := dX9_year_k24.2.2.2.2.2
set_option maxRecDepth 100000 in
theorem dX9_year_k25 : (decode cX9_year 117 = .ok (.invokevirtual 179, 3)) ∧ (decode cX9_year 120 = .ok (.iinc 6 1, 3)) ∧ (decode cX9_year 123 = .ok (.iload 5, 2)) ∧ (decode cX9_year 125 = .ok (.aload_n 0, 1)) ∧ (decode cX9_year 126 = .ok (.invokevirtual 166, 3)) ∧ (decode cX9_year 129 = .ok (.iadd, 1)) := by decide +kernel
theorem dX9_year_117 : decode cX9_year 117 = .ok (.invokevirtual 179, 3) := dX9_year_k25.1
theorem dX9_year_120 : decode cX9_year 120 = .ok (.iinc 6 1, 3) := dX9_year_k25.2.1
theorem dX9_year_123 : decode cX9_year 123 = .ok (.iload 5, 2) := dX9_year_k25.2.2.1
theorem dX9_year_125 : decode cX9_year 125 = .ok (.aload_n 0, 1) := dX9_year_k25.2.2.2.1
theorem dX9_year_126 : decode cX9_year 126 = .ok (.invokevirtual 166, 3) := dX9_year_k25.2.2.2.2.1
theorem dX9_year_129 : decode cX9_year 129 = .ok (.iadd, 1) := dX9_year_k25.2.2.2.2.2
set_option maxRecDepth 100000 in
theorem dX9_year_k26 : (decode cX9_year 130 = .ok (.istore 5, 2)) ∧ (decode cX9_year 132 = .ok (.iinc 7 1, 3)) ∧ (decode cX9_year 135 = .ok (.goto (-86), 3)) ∧ (decode cX9_year 138 = .ok (.iload_n 3, 1)) ∧ (decode cX9_year 139 = .ok (.ifCond .ne 8, 3)) ∧ (decode cX9_year 142 = .ok (.iload 5, 2)) := by decide +kernel
theorem dX9_year_130 : decode cX9_year 130 = .ok (.istore 5, 2) := dX9_year_k26.1
theorem dX9_year_132 : decode cX9_year 132 = .ok (.iinc 7 1, 3) := dX9_year_k26.2.1
theorem dX9_year_135 : decode cX9_year 135 = .ok (.goto (-86), 3) := dX9_year_k26.2.2.1
theorem dX9_year_138 : decode cX9_year 138 = .ok (.iload_n 3, 1) := dX9_year_k26.2.2.2.1
theorem dX9_year_139 : decode cX9_year 139 = .ok (.ifCond .ne 8, 3) := dX9_year_k26.2.2.2.2.1
theorem dX9_year_142 : decode cX9_year 142 = .ok (.iload 5, 2) := dX9_year_k26.2.2.2.2.2
set_option maxRecDepth 100000 in
theorem dX9_year_k27 : (decode cX9_year 144 = .ok (.goto 20, 3)) ∧ (decode cX9_year 147 = .ok (.iload_n 3, 1)) ∧ (decode cX9_year 148 = .ok (.iconst 1, 1)) ∧ (decode cX9_year 149 = .ok (.if_icmp .ne 8, 3)) ∧ (decode cX9_year 152 = .ok (.iload 6, 2)) ∧ (decode cX9_year 154 = .ok (.goto 10, 3)) := by decide +kernel
theorem dX9_year_144 : decode cX9_year 144 = .ok (.goto 20, 3) := dX9_year_k27.1
theorem dX9_year_147 : decode cX9_year 147 = .ok (.iload_n 3, 1) := dX9_year_k27.2.1
theorem dX9_year_148 : decode cX9_year 148 = .ok (.iconst 1, 1) := dX9_year_k27.2.2.1
theorem dX9_year_149 : decode cX9_year 149 = .ok (.if_icmp .ne 8, 3) := dX9_year_k27.2.2.2.1
theorem dX9_year_152 : decode cX9_year 152 = .ok (.iload 6, 2) := dX9_year_k27.2.2.2.2.1
theorem dX9_year_154 : decode cX9_year 154 = .ok (.goto 10, 3) := dX9_year_k27.2.2.2.2.2
set_option maxRecDepth 100000 in
theorem dX9_year_k28 : (decode cX9_year 157 = .ok (.aload_n 0, 1)) ∧ (decode cX9_year 158 = .ok (.iconst 0, 1)) ∧ (decode cX9_year 159 = .ok (.bipush (-6), 2)) ∧ (decode cX9_year 161 = .ok (.invokevirtual 134, 3)) ∧ (decode cX9_year 164 = .ok (.ireturn, 1)) := by decide +kernel
theorem dX9_year_157 : decode cX9_year 157 = .ok (.aload_n 0, 1) := dX9_year_k28.1
theorem dX9_year_158 : decode cX9_year 158 = .ok (.iconst 0, 1) := dX9_year_k28.2.1
theorem dX9_year_159 : decode cX9_year 159 = .ok (.bipush (-6), 2) := dX9_year_k28.2.2.1
theorem dX9_year_161 : decode cX9_year 161 = .ok (.invokevirtual 134, 3) := dX9_year_k28.2.2.2.1
theorem dX9_year_164 : decode cX9_year 164 = .ok (.ireturn, 1) := dX9_year_k28.2.2.2.2
set_option maxRecDepth 100000 in
theorem dX9_image_k29 : (decode cX9_image 0 = .ok (.iload_n 1, 1)) ∧ (decode cX9_image 1 = .ok (.iconst 0, 1)) ∧ (decode cX9_image 2 = .ok (.iconst 1, 1)) ∧ (decode cX9_image 3 = .ok (.invokestatic 94, 3)) ∧ (decode cX9_image 6 = .ok (.ifCond .ne 6, 3)) ∧ (decode cX9_image 9 = .ok (.bipush (-2), 2)) := by decide +kernel
theorem dX9_image_0 : decode cX9_image 0 = .ok (.iload_n 1, 1) := dX9_image_k29.1
theorem dX9_image_1 : decode cX9_image 1 = .ok (.iconst 0, 1) := dX9_image_k29.2.1
theorem dX9_image_2 : decode cX9_image 2 = .ok (.iconst 1, 1) := dX9_image_k29.2.2.1
theorem dX9_image_3 : decode cX9_image 3 = .ok (.invokestatic 94, 3) := dX9_image_k29.2.2.2.1
theorem dX9_image_6 : decode cX9_image 6 = .ok (.ifCond .ne 6, 3) := dX9_image_k29.2.2.2.2.1
theorem dX9_image_9 : decode cX9_image 9 = .ok (.bipush (-2), 2) := dX9_image_k29.2.2.2.2.2
set_option maxRecDepth 100000 in
theorem dX9_image_k30 : (decode cX9_image 11 = .ok (.ireturn, 1)) ∧ (decode cX9_image 12 = .ok (.sipush 200, 3)) ∧ (decode cX9_image 15 = .ok (.iload_n 1, 1)) ∧ (decode cX9_image 16 = .ok (.imul, 1)) ∧ (decode cX9_image 17 = .ok (.istore_n 2, 1)) ∧ (decode cX9_image 18 = .ok (.iconst 0, 1)) := by decide +kernel
theorem dX9_image_11 : decode cX9_image 11 = .ok (.ireturn, 1) := dX9_image_k30.1
theorem dX9_image_12 : decode cX9_image 12 = .ok (.sipush 200, 3) := dX9_image_k30.2.1
theorem dX9_image_15 : decode cX9_image 15 = .ok (.iload_n 1, 1) := dX9_image_k30.2.2.1
theorem dX9_image_16 : decode cX9_image 16 = .ok (.imul, 1) := dX9_image_k30.2.2.2.1
theorem dX9_image_17 : decode cX9_image 17 = .ok (.istore_n 2, 1) := dX9_image_k30.2.2.2.2.1
theorem dX9_image_18 : decode cX9_image 18 = .ok (.iconst 0, 1) := dX9_image_k30.2.2.2.2.2
set_option maxRecDepth 100000 in
theorem dX9_image_k31 : (decode cX9_image 19 = .ok (.istore_n 3, 1)) ∧ (decode cX9_image 20 = .ok (.iload_n 3, 1)) ∧ (decode cX9_image 21 = .ok (.bipush 24, 2)) ∧ (decode cX9_image 23 = .ok (.if_icmp .ge 23, 3)) ∧ (decode cX9_image 26 = .ok (.aload_n 0, 1)) ∧ (decode cX9_image 27 = .ok (.getfield 78, 3)) := by decide +kernel
theorem dX9_image_19 : decode cX9_image 19 = .ok (.istore_n 3, 1) := dX9_image_k31.1
theorem dX9_image_20 : decode cX9_image 20 = .ok (.iload_n 3, 1) := dX9_image_k31.2.1
theorem dX9_image_21 : decode cX9_image 21 = .ok (.bipush 24, 2) := dX9_image_k31.2.2.1
theorem dX9_image_23 : decode cX9_image 23 = .ok (.if_icmp .ge 23, 3) := dX9_image_k31.2.2.2.1
theorem dX9_image_26 : decode cX9_image 26 = .ok (.aload_n 0, 1) := dX9_image_k31.2.2.2.2.1
theorem dX9_image_27 : decode cX9_image 27 = .ok (.getfield 78, 3) := dX9_image_k31.2.2.2.2.2
set_option maxRecDepth 100000 in
theorem dX9_image_k32 : (decode cX9_image 30 = .ok (.iload_n 2, 1)) ∧ (decode cX9_image 31 = .ok (.iload_n 3, 1)) ∧ (decode cX9_image 32 = .ok (.iadd, 1)) ∧ (decode cX9_image 33 = .ok (.aload_n 0, 1)) ∧ (decode cX9_image 34 = .ok (.getfield 13, 3)) ∧ (decode cX9_image 37 = .ok (.iload_n 3, 1)) := by decide +kernel
theorem dX9_image_30 : decode cX9_image 30 = .ok (.iload_n 2, 1) := dX9_image_k32.1
theorem dX9_image_31 : decode cX9_image 31 = .ok (.iload_n 3, 1) := dX9_image_k32.2.1
theorem dX9_image_32 : decode cX9_image 32 = .ok (.iadd, 1) := dX9_image_k32.2.2.1
theorem dX9_image_33 : decode cX9_image 33 = .ok (.aload_n 0, 1) := dX9_image_k32.2.2.2.1
theorem dX9_image_34 : decode cX9_image 34 = .ok (.getfield 13, 3) := dX9_image_k32.2.2.2.2.1
theorem dX9_image_37 : decode cX9_image 37 = .ok (.iload_n 3, 1) := dX9_image_k32.2.2.2.2.2
set_option maxRecDepth 100000 in
theorem dX9_image_k33 : (decode cX9_image 38 = .ok (.iaload, 1)) ∧ (decode cX9_image 39 = .ok (.iastore, 1)) ∧ (decode cX9_image 40 = .ok (.iinc 3 1, 3)) ∧ (decode cX9_image 43 = .ok (.goto (-23), 3)) ∧ (decode cX9_image 46 = .ok (.iconst 0, 1)) ∧ (decode cX9_image 47 = .ok (.istore_n 3, 1)) := by decide +kernel
theorem dX9_image_38 : decode cX9_image 38 = .ok (.iaload, 1) := dX9_image_k33.1
theorem dX9_image_39 : decode cX9_image 39 = .ok (.iastore, 1) := dX9_image_k33.2.1
theorem dX9_image_40 : decode cX9_image 40 = .ok (.iinc 3 1, 3) := dX9_image_k33.2.2.1
theorem dX9_image_43 : decode cX9_image 43 = .ok (.goto (-23), 3) := dX9_image_k33.2.2.2.1
theorem dX9_image_46 : decode cX9_image 46 = .ok (.iconst 0, 1) := dX9_image_k33.2.2.2.2.1
theorem dX9_image_47 : decode cX9_image 47 = .ok (.istore_n 3, 1) := dX9_image_k33.2.2.2.2.2
set_option maxRecDepth 100000 in
theorem dX9_image_k34 : (decode cX9_image 48 = .ok (.iload_n 3, 1)) ∧ (decode cX9_image 49 = .ok (.bipush 36, 2)) ∧ (decode cX9_image 51 = .ok (.if_icmp .ge 26, 3)) ∧ (decode cX9_image 54 = .ok (.aload_n 0, 1)) ∧ (decode cX9_image 55 = .ok (.getfield 78, 3)) ∧ (decode cX9_image 58 = .ok (.iload_n 2, 1)) := by decide +kernel
theorem dX9_image_48 : decode cX9_image 48 = .ok (.iload_n 3, 1) := dX9_image_k34.1
theorem dX9_image_49 : decode cX9_image 49 = .ok (.bipush 36, 2) := dX9_image_k34.2.1
theorem dX9_image_51 : decode cX9_image 51 = .ok (.if_icmp .ge 26, 3) := dX9_image_k34.2.2.1
theorem dX9_image_54 : decode cX9_image 54 = .ok (.aload_n 0, 1) := dX9_image_k34.2.2.2.1
theorem dX9_image_55 : decode cX9_image 55 = .ok (.getfield 78, 3) := dX9_image_k34.2.2.2.2.1
theorem dX9_image_58 : decode cX9_image 58 = .ok (.iload_n 2, 1) := dX9_image_k34.2.2.2.2.2
set_option maxRecDepth 100000 in
theorem dX9_image_k35 : (decode cX9_image 59 = .ok (.bipush 24, 2)) ∧ (decode cX9_image 61 = .ok (.iadd, 1)) ∧ (decode cX9_image 62 = .ok (.iload_n 3, 1)) ∧ (decode cX9_image 63 = .ok (.iadd, 1)) ∧ (decode cX9_image 64 = .ok (.aload_n 0, 1)) ∧ (decode cX9_image 65 = .ok (.getfield 23, 3)) := by decide +kernel
theorem dX9_image_59 : decode cX9_image 59 = .ok (.bipush 24, 2) := dX9_image_k35.1
theorem dX9_image_61 : decode cX9_image 61 = .ok (.iadd, 1) := dX9_image_k35.2.1
theorem dX9_image_62 : decode cX9_image 62 = .ok (.iload_n 3, 1) := dX9_image_k35.2.2.1
theorem dX9_image_63 : decode cX9_image 63 = .ok (.iadd, 1) := dX9_image_k35.2.2.2.1
theorem dX9_image_64 : decode cX9_image 64 = .ok (.aload_n 0, 1) := dX9_image_k35.2.2.2.2.1
theorem dX9_image_65 : decode cX9_image 65 = .ok (.getfield 23, 3) := dX9_image_k35.2.2.2.2.2
set_option maxRecDepth 100000 in
theorem dX9_image_k36 : (decode cX9_image 68 = .ok (.iload_n 3, 1)) ∧ (decode cX9_image 69 = .ok (.iaload, 1)) ∧ (decode cX9_image 70 = .ok (.iastore, 1)) ∧ (decode cX9_image 71 = .ok (.iinc 3 1, 3)) ∧ (decode cX9_image 74 = .ok (.goto (-26), 3)) ∧ (decode cX9_image 77 = .ok (.iconst 0, 1)) := by decide +kernel
theorem dX9_image_68 : decode cX9_image 68 = .ok (.iload_n 3, 1) := dX9_image_k36.1
theorem dX9_image_69 : decode cX9_image 69 = .ok (.iaload, 1) := dX9_image_k36.2.1
theorem dX9_image_70 : decode cX9_image 70 = .ok (.iastore, 1) := dX9_image_k36.2.2.1
theorem dX9_image_71 : decode cX9_image 71 = .ok (.iinc 3 1, 3) := dX9_image_k36.2.2.2.1
theorem dX9_image_74 : decode cX9_image 74 = .ok (.goto (-26), 3) := dX9_image_k36.2.2.2.2.1
theorem dX9_image_77 : decode cX9_image 77 = .ok (.iconst 0, 1) := dX9_image_k36.2.2.2.2.2
set_option maxRecDepth 100000 in
theorem dX9_image_k37 : (decode cX9_image 78 = .ok (.istore_n 3, 1)) ∧ (decode cX9_image 79 = .ok (.iload_n 3, 1)) ∧ (decode cX9_image 80 = .ok (.bipush 40, 2)) ∧ (decode cX9_image 82 = .ok (.if_icmp .ge 26, 3)) ∧ (decode cX9_image 85 = .ok (.aload_n 0, 1)) ∧ (decode cX9_image 86 = .ok (.getfield 78, 3)) := by decide +kernel
theorem dX9_image_78 : decode cX9_image 78 = .ok (.istore_n 3, 1) := dX9_image_k37.1
theorem dX9_image_79 : decode cX9_image 79 = .ok (.iload_n 3, 1) := dX9_image_k37.2.1
theorem dX9_image_80 : decode cX9_image 80 = .ok (.bipush 40, 2) := dX9_image_k37.2.2.1
theorem dX9_image_82 : decode cX9_image 82 = .ok (.if_icmp .ge 26, 3) := dX9_image_k37.2.2.2.1
theorem dX9_image_85 : decode cX9_image 85 = .ok (.aload_n 0, 1) := dX9_image_k37.2.2.2.2.1
theorem dX9_image_86 : decode cX9_image 86 = .ok (.getfield 78, 3) := dX9_image_k37.2.2.2.2.2
set_option maxRecDepth 100000 in
theorem dX9_image_k38 : (decode cX9_image 89 = .ok (.iload_n 2, 1)) ∧ (decode cX9_image 90 = .ok (.bipush 60, 2)) ∧ (decode cX9_image 92 = .ok (.iadd, 1)) ∧ (decode cX9_image 93 = .ok (.iload_n 3, 1)) ∧ (decode cX9_image 94 = .ok (.iadd, 1)) ∧ (decode cX9_image 95 = .ok (.aload_n 0, 1)) := by decide +kernel
theorem dX9_image_89 : decode cX9_image 89 = .ok (.iload_n 2, 1) := dX9_image_k38.1
theorem dX9_image_90 : decode cX9_image 90 = .ok (.bipush 60, 2) := dX9_image_k38.2.1
theorem dX9_image_92 : decode cX9_image 92 = .ok (.iadd, 1) := dX9_image_k38.2.2.1
theorem dX9_image_93 : decode cX9_image 93 = .ok (.iload_n 3, 1) := dX9_image_k38.2.2.2.1
theorem dX9_image_94 : decode cX9_image 94 = .ok (.iadd, 1) := dX9_image_k38.2.2.2.2.1
theorem dX9_image_95 : decode cX9_image 95 = .ok (.aload_n 0, 1) := dX9_image_k38.2.2.2.2.2
set_option maxRecDepth 100000 in
theorem dX9_image_k39 : (decode cX9_image 96 = .ok (.getfield 26, 3)) ∧ (decode cX9_image 99 = .ok (.iload_n 3, 1)) ∧ (decode cX9_image 100 = .ok (.iaload, 1)) ∧ (decode cX9_image 101 = .ok (.iastore, 1)) ∧ (decode cX9_image 102 = .ok (.iinc 3 1, 3)) ∧ (decode cX9_image 105 = .ok (.goto (-26), 3)) := by decide +kernel
theorem dX9_image_96 : decode cX9_image 96 = .ok (.getfield 26, 3) := dX9_image_k39.1
theorem dX9_image_99 : decode cX9_image 99 = .ok (.iload_n 3, 1) := dX9_image_k39.2.1
theorem dX9_image_100 : decode cX9_image 100 = .ok (.iaload, 1) := dX9_image_k39.2.2.1
theorem dX9_image_101 : decode cX9_image 101 = .ok (.iastore, 1) := dX9_image_k39.2.2.2.1
theorem dX9_image_102 : decode cX9_image 102 = .ok (.iinc 3 1, 3) := dX9_image_k39.2.2.2.2.1
theorem dX9_image_105 : decode cX9_image 105 = .ok (.goto (-26), 3) := dX9_image_k39.2.2.2.2.2
set_option maxRecDepth 100000 in
theorem dX9_image_k40 : (decode cX9_image 108 = .ok (.iconst 0, 1)) ∧ (decode cX9_image 109 = .ok (.istore_n 3, 1)) ∧ (decode cX9_image 110 = .ok (.iload_n 3, 1)) ∧ (decode cX9_image 111 = .ok (.bipush 8, 2)) ∧ (decode cX9_image 113 = .ok (.if_icmp .ge 77, 3)) ∧ (decode cX9_image 116 = .ok (.aload_n 0, 1)) := by decide +kernel
theorem dX9_image_108 : decode cX9_image 108 = .ok (.iconst 0, 1) := dX9_image_k40.1
theorem dX9_image_109 : decode cX9_image 109 = .ok (.istore_n 3, 1) := dX9_image_k40.2.1
theorem dX9_image_110 : decode cX9_image 110 = .ok (.iload_n 3, 1) := dX9_image_k40.2.2.1
theorem dX9_image_111 : decode cX9_image 111 = .ok (.bipush 8, 2) := dX9_image_k40.2.2.2.1
theorem dX9_image_113 : decode cX9_image 113 = .ok (.if_icmp .ge 77, 3) := dX9_image_k40.2.2.2.2.1
theorem dX9_image_116 : decode cX9_image 116 = .ok (.aload_n 0, 1) := dX9_image_k40.2.2.2.2.2
set_option maxRecDepth 100000 in
theorem dX9_image_k41 : (decode cX9_image 117 = .ok (.getfield 78, 3)) ∧ (decode cX9_image 120 = .ok (.iload_n 2, 1)) ∧ (decode cX9_image 121 = .ok (.bipush 100, 2)) ∧ (decode cX9_image 123 = .ok (.iadd, 1)) ∧ (decode cX9_image 124 = .ok (.iload_n 3, 1)) ∧ (decode cX9_image 125 = .ok (.iadd, 1)) := by decide +kernel
theorem dX9_image_117 : decode cX9_image 117 = .ok (.getfield 78, 3) := dX9_image_k41.1
theorem dX9_image_120 : decode cX9_image 120 = .ok (.iload_n 2, 1) := dX9_image_k41.2.1
theorem dX9_image_121 : decode cX9_image 121 = .ok (.bipush 100, 2) := dX9_image_k41.2.2.1
theorem dX9_image_123 : decode cX9_image 123 = .ok (.iadd, 1) := dX9_image_k41.2.2.2.1
theorem dX9_image_124 : decode cX9_image 124 = .ok (.iload_n 3, 1) := dX9_image_k41.2.2.2.2.1
theorem dX9_image_125 : decode cX9_image 125 = .ok (.iadd, 1) := dX9_image_k41.2.2.2.2.2
set_option maxRecDepth 100000 in
theorem dX9_image_k42 : (decode cX9_image 126 = .ok (.aload_n 0, 1)) ∧ (decode cX9_image 127 = .ok (.getfield 29, 3)) ∧ (decode cX9_image 130 = .ok (.iload_n 3, 1)) ∧ (decode cX9_image 131 = .ok (.iaload, 1)) ∧ (decode cX9_image 132 = .ok (.iastore, 1)) ∧ (decode cX9_image 133 = .ok (.aload_n 0, 1)) := by decide +kernel
theorem dX9_image_126 : decode cX9_image 126 = .ok (.aload_n 0, 1) := dX9_image_k42.1
theorem dX9_image_127 : decode cX9_image 127 = .ok (.getfield 29, 3) := dX9_image_k42.2.1
theorem dX9_image_130 : decode cX9_image 130 = .ok (.iload_n 3, 1) := dX9_image_k42.2.2.1
theorem dX9_image_131 : decode cX9_image 131 = .ok (.iaload, 1) := dX9_image_k42.2.2.2.1
theorem dX9_image_132 : decode cX9_image 132 = .ok (.iastore, 1) := dX9_image_k42.2.2.2.2.1
theorem dX9_image_133 : decode cX9_image 133 = .ok (.aload_n 0, 1) := dX9_image_k42.2.2.2.2.2
set_option maxRecDepth 100000 in
theorem dX9_image_k43 : (decode cX9_image 134 = .ok (.getfield 78, 3)) ∧ (decode cX9_image 137 = .ok (.iload_n 2, 1)) ∧ (decode cX9_image 138 = .ok (.bipush 108, 2)) ∧ (decode cX9_image 140 = .ok (.iadd, 1)) ∧ (decode cX9_image 141 = .ok (.iload_n 3, 1)) ∧ (decode cX9_image 142 = .ok (.iadd, 1)) := by decide +kernel
theorem dX9_image_134 : decode cX9_image 134 = .ok (.getfield 78, 3) := dX9_image_k43.1
theorem dX9_image_137 : decode cX9_image 137 = .ok (.iload_n 2, 1) := dX9_image_k43.2.1
theorem dX9_image_138 : decode cX9_image 138 = .ok (.bipush 108, 2) := dX9_image_k43.2.2.1
theorem dX9_image_140 : decode cX9_image 140 = .ok (.iadd, 1) := dX9_image_k43.2.2.2.1
theorem dX9_image_141 : decode cX9_image 141 = .ok (.iload_n 3, 1) := dX9_image_k43.2.2.2.2.1
theorem dX9_image_142 : decode cX9_image 142 = .ok (.iadd, 1) := dX9_image_k43.2.2.2.2.2
set_option maxRecDepth 100000 in
theorem dX9_image_k44 : (decode cX9_image 143 = .ok (.aload_n 0, 1)) ∧ (decode cX9_image 144 = .ok (.getfield 32, 3)) ∧ (decode cX9_image 147 = .ok (.iload_n 3, 1)) ∧ (decode cX9_image 148 = .ok (.iaload, 1)) ∧ (decode cX9_image 149 = .ok (.iastore, 1)) ∧ (decode cX9_image 150 = .ok (.aload_n 0, 1)) := by decide +kernel
theorem dX9_image_143 : decode cX9_image 143 = .ok (.aload_n 0, 1) := dX9_image_k44.1
theorem dX9_image_144 : decode cX9_image 144 = .ok (.getfield 32, 3) := dX9_image_k44.2.1
theorem dX9_image_147 : decode cX9_image 147 = .ok (.iload_n 3, 1) := dX9_image_k44.2.2.1
theorem dX9_image_148 : decode cX9_image 148 = .ok (.iaload, 1) := dX9_image_k44.2.2.2.1
theorem dX9_image_149 : decode cX9_image 149 = .ok (.iastore, 1) := dX9_image_k44.2.2.2.2.1
theorem dX9_image_150 : decode cX9_image 150 = .ok (.aload_n 0, 1) := dX9_image_k44.2.2.2.2.2
set_option maxRecDepth 100000 in
theorem dX9_image_k45 : (decode cX9_image 151 = .ok (.getfield 78, 3)) ∧ (decode cX9_image 154 = .ok (.iload_n 2, 1)) ∧ (decode cX9_image 155 = .ok (.bipush 116, 2)) ∧ (decode cX9_image 157 = .ok (.iadd, 1)) ∧ (decode cX9_image 158 = .ok (.iload_n 3, 1)) ∧ (decode cX9_image 159 = .ok (.iadd, 1)) := by decide +kernel
theorem dX9_image_151 : decode cX9_image 151 = .ok (.getfield 78, 3) := dX9_image_k45.1
theorem dX9_image_154 : decode cX9_image 154 = .ok (.iload_n 2, 1) := dX9_image_k45.2.1
theorem dX9_image_155 : decode cX9_image 155 = .ok (.bipush 116, 2) := dX9_image_k45.2.2.1
theorem dX9_image_157 : decode cX9_image 157 = .ok (.iadd, 1) := dX9_image_k45.2.2.2.1
theorem dX9_image_158 : decode cX9_image 158 = .ok (.iload_n 3, 1) := dX9_image_k45.2.2.2.2.1
theorem dX9_image_159 : decode cX9_image 159 = .ok (.iadd, 1) := dX9_image_k45.2.2.2.2.2
set_option maxRecDepth 100000 in
theorem dX9_image_k46 : (decode cX9_image 160 = .ok (.aload_n 0, 1)) ∧ (decode cX9_image 161 = .ok (.getfield 35, 3)) ∧ (decode cX9_image 164 = .ok (.iload_n 3, 1)) ∧ (decode cX9_image 165 = .ok (.iaload, 1)) ∧ (decode cX9_image 166 = .ok (.iastore, 1)) ∧ (decode cX9_image 167 = .ok (.aload_n 0, 1)) := by decide +kernel
theorem dX9_image_160 : decode cX9_image 160 = .ok (.aload_n 0, 1) := dX9_image_k46.1
theorem dX9_image_161 : decode cX9_image 161 = .ok (.getfield 35, 3) := dX9_image_k46.2.1
theorem dX9_image_164 : decode cX9_image 164 = .ok (.iload_n 3, 1) := dX9_image_k46.2.2.1
theorem dX9_image_165 : decode cX9_image 165 = .ok (.iaload, 1) := dX9_image_k46.2.2.2.1
theorem dX9_image_166 : decode cX9_image 166 = .ok (.iastore, 1) := dX9_image_k46.2.2.2.2.1
theorem dX9_image_167 : decode cX9_image 167 = .ok (.aload_n 0, 1) := dX9_image_k46.2.2.2.2.2
set_option maxRecDepth 100000 in
theorem dX9_image_k47 : (decode cX9_image 168 = .ok (.getfield 78, 3)) ∧ (decode cX9_image 171 = .ok (.iload_n 2, 1)) ∧ (decode cX9_image 172 = .ok (.bipush 124, 2)) ∧ (decode cX9_image 174 = .ok (.iadd, 1)) ∧ (decode cX9_image 175 = .ok (.iload_n 3, 1)) ∧ (decode cX9_image 176 = .ok (.iadd, 1)) := by decide +kernel
theorem dX9_image_168 : decode cX9_image 168 = .ok (.getfield 78, 3) := dX9_image_k47.1
theorem dX9_image_171 : decode cX9_image 171 = .ok (.iload_n 2, 1) := dX9_image_k47.2.1
theorem dX9_image_172 : decode cX9_image 172 = .ok (.bipush 124, 2) := dX9_image_k47.2.2.1
theorem dX9_image_174 : decode cX9_image 174 = .ok (.iadd, 1) := dX9_image_k47.2.2.2.1
theorem dX9_image_175 : decode cX9_image 175 = .ok (.iload_n 3, 1) := dX9_image_k47.2.2.2.2.1
theorem dX9_image_176 : decode cX9_image 176 = .ok (.iadd, 1) := dX9_image_k47.2.2.2.2.2
set_option maxRecDepth 100000 in
theorem dX9_image_k48 : (decode cX9_image 177 = .ok (.aload_n 0, 1)) ∧ (decode cX9_image 178 = .ok (.getfield 38, 3)) ∧ (decode cX9_image 181 = .ok (.iload_n 3, 1)) ∧ (decode cX9_image 182 = .ok (.iaload, 1)) ∧ (decode cX9_image 183 = .ok (.iastore, 1)) ∧ (decode cX9_image 184 = .ok (.iinc 3 1, 3)) := by decide +kernel
theorem dX9_image_177 : decode cX9_image 177 = .ok (.aload_n 0, 1) := dX9_image_k48.1
theorem dX9_image_178 : decode cX9_image 178 = .ok (.getfield 38, 3) := dX9_image_k48.2.1
theorem dX9_image_181 : decode cX9_image 181 = .ok (.iload_n 3, 1) := dX9_image_k48.2.2.1
theorem dX9_image_182 : decode cX9_image 182 = .ok (.iaload, 1) := dX9_image_k48.2.2.2.1
theorem dX9_image_183 : decode cX9_image 183 = .ok (.iastore, 1) := dX9_image_k48.2.2.2.2.1
theorem dX9_image_184 : decode cX9_image 184 = .ok (.iinc 3 1, 3) := dX9_image_k48.2.2.2.2.2
set_option maxRecDepth 100000 in
theorem dX9_image_k49 : (decode cX9_image 187 = .ok (.goto (-77), 3)) ∧ (decode cX9_image 190 = .ok (.iconst 0, 1)) ∧ (decode cX9_image 191 = .ok (.istore_n 3, 1)) ∧ (decode cX9_image 192 = .ok (.iload_n 3, 1)) ∧ (decode cX9_image 193 = .ok (.bipush 12, 2)) ∧ (decode cX9_image 195 = .ok (.if_icmp .ge 27, 3)) := by decide +kernel
theorem dX9_image_187 : decode cX9_image 187 = .ok (.goto (-77), 3) := dX9_image_k49.1
theorem dX9_image_190 : decode cX9_image 190 = .ok (.iconst 0, 1) := dX9_image_k49.2.1
theorem dX9_image_191 : decode cX9_image 191 = .ok (.istore_n 3, 1) := dX9_image_k49.2.2.1
theorem dX9_image_192 : decode cX9_image 192 = .ok (.iload_n 3, 1) := dX9_image_k49.2.2.2.1
theorem dX9_image_193 : decode cX9_image 193 = .ok (.bipush 12, 2) := dX9_image_k49.2.2.2.2.1
theorem dX9_image_195 : decode cX9_image 195 = .ok (.if_icmp .ge 27, 3) := dX9_image_k49.2.2.2.2.2
set_option maxRecDepth 100000 in
theorem dX9_image_k50 : (decode cX9_image 198 = .ok (.aload_n 0, 1)) ∧ (decode cX9_image 199 = .ok (.getfield 78, 3)) ∧ (decode cX9_image 202 = .ok (.iload_n 2, 1)) ∧ (decode cX9_image 203 = .ok (.sipush 132, 3)) ∧ (decode cX9_image 206 = .ok (.iadd, 1)) ∧ (decode cX9_image 207 = .ok (.iload_n 3, 1)) := by decide +kernel
theorem dX9_image_198 : decode cX9_image 198 = .ok (.aload_n 0, 1) := dX9_image_k50.1
theorem dX9_image_199 : decode cX9_image 199 = .ok (.getfield 78, 3) := dX9_image_k50.2.1
theorem dX9_image_202 : decode cX9_image 202 = .ok (.iload_n 2, 1) := dX9_image_k50.2.2.1
theorem dX9_image_203 : decode cX9_image 203 = .ok (.sipush 132, 3) := dX9_image_k50.2.2.2.1
theorem dX9_image_206 : decode cX9_image 206 = .ok (.iadd, 1) := dX9_image_k50.2.2.2.2.1
theorem dX9_image_207 : decode cX9_image 207 = .ok (.iload_n 3, 1) := dX9_image_k50.2.2.2.2.2
set_option maxRecDepth 100000 in
theorem dX9_image_k51 : (decode cX9_image 208 = .ok (.iadd, 1)) ∧ (decode cX9_image 209 = .ok (.aload_n 0, 1)) ∧ (decode cX9_image 210 = .ok (.getfield 41, 3)) ∧ (decode cX9_image 213 = .ok (.iload_n 3, 1)) ∧ (decode cX9_image 214 = .ok (.iaload, 1)) ∧ (decode cX9_image 215 = .ok (.iastore, 1)) := by decide +kernel
theorem dX9_image_208 : decode cX9_image 208 = .ok (.iadd, 1) := dX9_image_k51.1
theorem dX9_image_209 : decode cX9_image 209 = .ok (.aload_n 0, 1) := dX9_image_k51.2.1
theorem dX9_image_210 : decode cX9_image 210 = .ok (.getfield 41, 3) := dX9_image_k51.2.2.1
theorem dX9_image_213 : decode cX9_image 213 = .ok (.iload_n 3, 1) := dX9_image_k51.2.2.2.1
theorem dX9_image_214 : decode cX9_image 214 = .ok (.iaload, 1) := dX9_image_k51.2.2.2.2.1
theorem dX9_image_215 : decode cX9_image 215 = .ok (.iastore, 1) := dX9_image_k51.2.2.2.2.2
set_option maxRecDepth 100000 in
theorem dX9_image_k52 : (decode cX9_image 216 = .ok (.iinc 3 1, 3)) ∧ (decode cX9_image 219 = .ok (.goto (-27), 3)) ∧ (decode cX9_image 222 = .ok (.iconst 0, 1)) ∧ (decode cX9_image 223 = .ok (.istore_n 3, 1)) ∧ (decode cX9_image 224 = .ok (.iload_n 3, 1)) ∧ (decode cX9_image 225 = .ok (.bipush 6, 2)) := by decide +kernel
theorem dX9_image_216 : decode cX9_image 216 = .ok (.iinc 3 1, 3) := dX9_image_k52.1
theorem dX9_image_219 : decode cX9_image 219 = .ok (.goto (-27), 3) := dX9_image_k52.2.1
theorem dX9_image_222 : decode cX9_image 222 = .ok (.iconst 0, 1) := dX9_image_k52.2.2.1
theorem dX9_image_223 : decode cX9_image 223 = .ok (.istore_n 3, 1) := dX9_image_k52.2.2.2.1
theorem dX9_image_224 : decode cX9_image 224 = .ok (.iload_n 3, 1) := dX9_image_k52.2.2.2.2.1
theorem dX9_image_225 : decode cX9_image 225 = .ok (.bipush 6, 2) := dX9_image_k52.2.2.2.2.2
set_option maxRecDepth 100000 in
theorem dX9_image_k53 : (decode cX9_image 227 = .ok (.if_icmp .ge 45, 3)) ∧ (decode cX9_image 230 = .ok (.aload_n 0, 1)) ∧ (decode cX9_image 231 = .ok (.getfield 78, 3)) ∧ (decode cX9_image 234 = .ok (.iload_n 2, 1)) ∧ (decode cX9_image 235 = .ok (.sipush 144, 3)) ∧ (decode cX9_image 238 = .ok (.iadd, 1)) := by decide +kernel
theorem dX9_image_227 : decode cX9_image 227 = .ok (.if_icmp .ge 45, 3) := dX9_image_k53.1
theorem dX9_image_230 : decode cX9_image 230 = .ok (.aload_n 0, 1) := dX9_image_k53.2.1
theorem dX9_image_231 : decode cX9_image 231 = .ok (.getfield 78, 3) := dX9_image_k53.2.2.1
theorem dX9_image_234 : decode cX9_image 234 = .ok (.iload_n 2, 1) := dX9_image_k53.2.2.2.1
theorem dX9_image_235 : decode cX9_image 235 = .ok (.sipush 144, 3) := dX9_image_k53.2.2.2.2.1
theorem dX9_image_238 : decode cX9_image 238 = .ok (.iadd, 1) := dX9_image_k53.2.2.2.2.2
set_option maxRecDepth 100000 in
theorem dX9_image_k54 : (decode cX9_image 239 = .ok (.iload_n 3, 1)) ∧ (decode cX9_image 240 = .ok (.iadd, 1)) ∧ (decode cX9_image 241 = .ok (.aload_n 0, 1)) ∧ (decode cX9_image 242 = .ok (.getfield 17, 3)) ∧ (decode cX9_image 245 = .ok (.iload_n 3, 1)) ∧ (decode cX9_image 246 = .ok (.iaload, 1)) := by decide +kernel
theorem dX9_image_239 : decode cX9_image 239 = .ok (.iload_n 3, 1) := dX9_image_k54.1
theorem dX9_image_240 : decode cX9_image 240 = .ok (.iadd, 1) := dX9_image_k54.2.1
theorem dX9_image_241 : decode cX9_image 241 = .ok (.aload_n 0, 1) := dX9_image_k54.2.2.1
theorem dX9_image_242 : decode cX9_image 242 = .ok (.getfield 17, 3) := dX9_image_k54.2.2.2.1
theorem dX9_image_245 : decode cX9_image 245 = .ok (.iload_n 3, 1) := dX9_image_k54.2.2.2.2.1
theorem dX9_image_246 : decode cX9_image 246 = .ok (.iaload, 1) := dX9_image_k54.2.2.2.2.2
set_option maxRecDepth 100000 in
theorem dX9_image_k55 : (decode cX9_image 247 = .ok (.iastore, 1)) ∧ (decode cX9_image 248 = .ok (.aload_n 0, 1)) ∧ (decode cX9_image 249 = .ok (.getfield 78, 3)) ∧ (decode cX9_image 252 = .ok (.iload_n 2, 1)) ∧ (decode cX9_image 253 = .ok (.sipush 150, 3)) ∧ (decode cX9_image 256 = .ok (.iadd, 1)) := by decide +kernel
theorem dX9_image_247 : decode cX9_image 247 = .ok (.iastore, 1) := dX9_image_k55.1
theorem dX9_image_248 : decode cX9_image 248 = .ok (.aload_n 0, 1) := dX9_image_k55.2.1
theorem dX9_image_249 : decode cX9_image 249 = .ok (.getfield 78, 3) := dX9_image_k55.2.2.1
theorem dX9_image_252 : decode cX9_image 252 = .ok (.iload_n 2, 1) := dX9_image_k55.2.2.2.1
theorem dX9_image_253 : decode cX9_image 253 = .ok (.sipush 150, 3) := dX9_image_k55.2.2.2.2.1
theorem dX9_image_256 : decode cX9_image 256 = .ok (.iadd, 1) := dX9_image_k55.2.2.2.2.2
set_option maxRecDepth 100000 in
theorem dX9_image_k56 : (decode cX9_image 257 = .ok (.iload_n 3, 1)) ∧ (decode cX9_image 258 = .ok (.iadd, 1)) ∧ (decode cX9_image 259 = .ok (.aload_n 0, 1)) ∧ (decode cX9_image 260 = .ok (.getfield 20, 3)) ∧ (decode cX9_image 263 = .ok (.iload_n 3, 1)) ∧ (decode cX9_image 264 = .ok (.iaload, 1)) := by decide +kernel
theorem dX9_image_257 : decode cX9_image 257 = .ok (.iload_n 3, 1) := dX9_image_k56.1
theorem dX9_image_258 : decode cX9_image 258 = .ok (.iadd, 1) := dX9_image_k56.2.1
theorem dX9_image_259 : decode cX9_image 259 = .ok (.aload_n 0, 1) := dX9_image_k56.2.2.1
theorem dX9_image_260 : decode cX9_image 260 = .ok (.getfield 20, 3) := dX9_image_k56.2.2.2.1
theorem dX9_image_263 : decode cX9_image 263 = .ok (.iload_n 3, 1) := dX9_image_k56.2.2.2.2.1
theorem dX9_image_264 : decode cX9_image 264 = .ok (.iaload, 1) := dX9_image_k56.2.2.2.2.2
set_option maxRecDepth 100000 in
theorem dX9_image_k57 : (decode cX9_image 265 = .ok (.iastore, 1)) ∧ (decode cX9_image 266 = .ok (.iinc 3 1, 3)) ∧ (decode cX9_image 269 = .ok (.goto (-45), 3)) ∧ (decode cX9_image 272 = .ok (.aload_n 0, 1)) ∧ (decode cX9_image 273 = .ok (.getfield 78, 3)) ∧ (decode cX9_image 276 = .ok (.iload_n 2, 1)) := by decide +kernel
theorem dX9_image_265 : decode cX9_image 265 = .ok (.iastore, 1) := dX9_image_k57.1
theorem dX9_image_266 : decode cX9_image 266 = .ok (.iinc 3 1, 3) := dX9_image_k57.2.1
theorem dX9_image_269 : decode cX9_image 269 = .ok (.goto (-45), 3) := dX9_image_k57.2.2.1
theorem dX9_image_272 : decode cX9_image 272 = .ok (.aload_n 0, 1) := dX9_image_k57.2.2.2.1
theorem dX9_image_273 : decode cX9_image 273 = .ok (.getfield 78, 3) := dX9_image_k57.2.2.2.2.1
theorem dX9_image_276 : decode cX9_image 276 = .ok (.iload_n 2, 1) := dX9_image_k57.2.2.2.2.2
set_option maxRecDepth 100000 in
theorem dX9_image_k58 : (decode cX9_image 277 = .ok (.sipush 156, 3)) ∧ (decode cX9_image 280 = .ok (.iadd, 1)) ∧ (decode cX9_image 281 = .ok (.aload_n 0, 1)) ∧ (decode cX9_image 282 = .ok (.getfield 7, 3)) ∧ (decode cX9_image 285 = .ok (.iastore, 1)) ∧ (decode cX9_image 286 = .ok (.aload_n 0, 1)) := by decide +kernel
theorem dX9_image_277 : decode cX9_image 277 = .ok (.sipush 156, 3) := dX9_image_k58.1
theorem dX9_image_280 : decode cX9_image 280 = .ok (.iadd, 1) := dX9_image_k58.2.1
theorem dX9_image_281 : decode cX9_image 281 = .ok (.aload_n 0, 1) := dX9_image_k58.2.2.1
theorem dX9_image_282 : decode cX9_image 282 = .ok (.getfield 7, 3) := dX9_image_k58.2.2.2.1
theorem dX9_image_285 : decode cX9_image 285 = .ok (.iastore, 1) := dX9_image_k58.2.2.2.2.1
theorem dX9_image_286 : decode cX9_image 286 = .ok (.aload_n 0, 1) := dX9_image_k58.2.2.2.2.2
set_option maxRecDepth 100000 in
theorem dX9_image_k59 : (decode cX9_image 287 = .ok (.getfield 78, 3)) ∧ (decode cX9_image 290 = .ok (.iload_n 2, 1)) ∧ (decode cX9_image 291 = .ok (.sipush 157, 3)) ∧ (decode cX9_image 294 = .ok (.iadd, 1)) ∧ (decode cX9_image 295 = .ok (.aload_n 0, 1)) ∧ (decode cX9_image 296 = .ok (.getfield 88, 3)) := by decide +kernel
theorem dX9_image_287 : decode cX9_image 287 = .ok (.getfield 78, 3) := dX9_image_k59.1
theorem dX9_image_290 : decode cX9_image 290 = .ok (.iload_n 2, 1) := dX9_image_k59.2.1
theorem dX9_image_291 : decode cX9_image 291 = .ok (.sipush 157, 3) := dX9_image_k59.2.2.1
theorem dX9_image_294 : decode cX9_image 294 = .ok (.iadd, 1) := dX9_image_k59.2.2.2.1
theorem dX9_image_295 : decode cX9_image 295 = .ok (.aload_n 0, 1) := dX9_image_k59.2.2.2.2.1
theorem dX9_image_296 : decode cX9_image 296 = .ok (.getfield 88, 3) := dX9_image_k59.2.2.2.2.2
set_option maxRecDepth 100000 in
theorem dX9_image_k60 : (decode cX9_image 299 = .ok (.iastore, 1)) ∧ (decode cX9_image 300 = .ok (.aload_n 0, 1)) ∧ (decode cX9_image 301 = .ok (.getfield 78, 3)) ∧ (decode cX9_image 304 = .ok (.iload_n 2, 1)) ∧ (decode cX9_image 305 = .ok (.sipush 158, 3)) ∧ (decode cX9_image 308 = .ok (.iadd, 1)) := by decide +kernel
theorem dX9_image_299 : decode cX9_image 299 = .ok (.iastore, 1) := dX9_image_k60.1
theorem dX9_image_300 : decode cX9_image 300 = .ok (.aload_n 0, 1) := dX9_image_k60.2.1
theorem dX9_image_301 : decode cX9_image 301 = .ok (.getfield 78, 3) := dX9_image_k60.2.2.1
theorem dX9_image_304 : decode cX9_image 304 = .ok (.iload_n 2, 1) := dX9_image_k60.2.2.2.1
theorem dX9_image_305 : decode cX9_image 305 = .ok (.sipush 158, 3) := dX9_image_k60.2.2.2.2.1
theorem dX9_image_308 : decode cX9_image 308 = .ok (.iadd, 1) := dX9_image_k60.2.2.2.2.2
set_option maxRecDepth 100000 in
theorem dX9_image_k61 : (decode cX9_image 309 = .ok (.aload_n 0, 1)) ∧ (decode cX9_image 310 = .ok (.getfield 91, 3)) ∧ (decode cX9_image 313 = .ok (.iastore, 1)) ∧ (decode cX9_image 314 = .ok (.aload_n 0, 1)) ∧ (decode cX9_image 315 = .ok (.getfield 81, 3)) ∧ (decode cX9_image 318 = .ok (.iload_n 1, 1)) := by decide +kernel
theorem dX9_image_309 : decode cX9_image 309 = .ok (.aload_n 0, 1) := dX9_image_k61.1
theorem dX9_image_310 : decode cX9_image 310 = .ok (.getfield 91, 3) := dX9_image_k61.2.1
theorem dX9_image_313 : decode cX9_image 313 = .ok (.iastore, 1) := dX9_image_k61.2.2.1
theorem dX9_image_314 : decode cX9_image 314 = .ok (.aload_n 0, 1) := dX9_image_k61.2.2.2.1
theorem dX9_image_315 : decode cX9_image 315 = .ok (.getfield 81, 3) := dX9_image_k61.2.2.2.2.1
theorem dX9_image_318 : decode cX9_image 318 = .ok (.iload_n 1, 1) := dX9_image_k61.2.2.2.2.2
set_option maxRecDepth 100000 in
theorem dX9_image_k62 : (decode cX9_image 319 = .ok (.iconst 1, 1)) ∧ (decode cX9_image 320 = .ok (.bastore, 1)) ∧ (decode cX9_image 321 = .ok (.iconst 1, 1)) ∧ (decode cX9_image 322 = .ok (.ireturn, 1)) := by decide +kernel
theorem dX9_image_319 : decode cX9_image 319 = .ok (.iconst 1, 1) := dX9_image_k62.1
theorem dX9_image_320 : decode cX9_image 320 = .ok (.bastore, 1) := dX9_image_k62.2.1
theorem dX9_image_321 : decode cX9_image 321 = .ok (.iconst 1, 1) := dX9_image_k62.2.2.1
theorem dX9_image_322 : decode cX9_image 322 = .ok (.ireturn, 1) := dX9_image_k62.2.2.2
set_option maxRecDepth 100000 in
theorem dX9_restore_k63 : (decode cX9_restore 0 = .ok (.iload_n 1, 1)) ∧ (decode cX9_restore 1 = .ok (.iconst 0, 1)) ∧ (decode cX9_restore 2 = .ok (.iconst 1, 1)) ∧ (decode cX9_restore 3 = .ok (.invokestatic 94, 3)) ∧ (decode cX9_restore 6 = .ok (.ifCond .ne 6, 3)) ∧ (decode cX9_restore 9 = .ok (.bipush (-2), 2)) := by decide +kernel
theorem dX9_restore_0 : decode cX9_restore 0 = .ok (.iload_n 1, 1) := dX9_restore_k63.1
theorem dX9_restore_1 : decode cX9_restore 1 = .ok (.iconst 0, 1) := dX9_restore_k63.2.1
theorem dX9_restore_2 : decode cX9_restore 2 = .ok (.iconst 1, 1) := dX9_restore_k63.2.2.1
theorem dX9_restore_3 : decode cX9_restore 3 = .ok (.invokestatic 94, 3) := dX9_restore_k63.2.2.2.1
theorem dX9_restore_6 : decode cX9_restore 6 = .ok (.ifCond .ne 6, 3) := dX9_restore_k63.2.2.2.2.1
theorem dX9_restore_9 : decode cX9_restore 9 = .ok (.bipush (-2), 2) := dX9_restore_k63.2.2.2.2.2
set_option maxRecDepth 100000 in
theorem dX9_restore_k64 : (decode cX9_restore 11 = .ok (.ireturn, 1)) ∧ (decode cX9_restore 12 = .ok (.aload_n 0, 1)) ∧ (decode cX9_restore 13 = .ok (.getfield 81, 3)) ∧ (decode cX9_restore 16 = .ok (.iload_n 1, 1)) ∧ (decode cX9_restore 17 = .ok (.baload, 1)) ∧ (decode cX9_restore 18 = .ok (.ifCond .ne 6, 3)) := by decide +kernel
theorem dX9_restore_11 : decode cX9_restore 11 = .ok (.ireturn, 1) := dX9_restore_k64.1
theorem dX9_restore_12 : decode cX9_restore 12 = .ok (.aload_n 0, 1) := dX9_restore_k64.2.1
theorem dX9_restore_13 : decode cX9_restore 13 = .ok (.getfield 81, 3) := dX9_restore_k64.2.2.1
theorem dX9_restore_16 : decode cX9_restore 16 = .ok (.iload_n 1, 1) := dX9_restore_k64.2.2.2.1
theorem dX9_restore_17 : decode cX9_restore 17 = .ok (.baload, 1) := dX9_restore_k64.2.2.2.2.1
theorem dX9_restore_18 : decode cX9_restore 18 = .ok (.ifCond .ne 6, 3) := dX9_restore_k64.2.2.2.2.2
set_option maxRecDepth 100000 in
theorem dX9_restore_k65 : (decode cX9_restore 21 = .ok (.bipush (-3), 2)) ∧ (decode cX9_restore 23 = .ok (.ireturn, 1)) ∧ (decode cX9_restore 24 = .ok (.sipush 200, 3)) ∧ (decode cX9_restore 27 = .ok (.iload_n 1, 1)) ∧ (decode cX9_restore 28 = .ok (.imul, 1)) ∧ (decode cX9_restore 29 = .ok (.istore_n 2, 1)) := by decide +kernel
theorem dX9_restore_21 : decode cX9_restore 21 = .ok (.bipush (-3), 2) := dX9_restore_k65.1
theorem dX9_restore_23 : decode cX9_restore 23 = .ok (.ireturn, 1) := dX9_restore_k65.2.1
theorem dX9_restore_24 : decode cX9_restore 24 = .ok (.sipush 200, 3) := dX9_restore_k65.2.2.1
theorem dX9_restore_27 : decode cX9_restore 27 = .ok (.iload_n 1, 1) := dX9_restore_k65.2.2.2.1
theorem dX9_restore_28 : decode cX9_restore 28 = .ok (.imul, 1) := dX9_restore_k65.2.2.2.2.1
theorem dX9_restore_29 : decode cX9_restore 29 = .ok (.istore_n 2, 1) := dX9_restore_k65.2.2.2.2.2
set_option maxRecDepth 100000 in
theorem dX9_restore_k66 : (decode cX9_restore 30 = .ok (.iconst 0, 1)) ∧ (decode cX9_restore 31 = .ok (.istore_n 3, 1)) ∧ (decode cX9_restore 32 = .ok (.iload_n 3, 1)) ∧ (decode cX9_restore 33 = .ok (.bipush 24, 2)) ∧ (decode cX9_restore 35 = .ok (.if_icmp .ge 23, 3)) ∧ (decode cX9_restore 38 = .ok (.aload_n 0, 1)) := by decide +kernel
theorem dX9_restore_30 : decode cX9_restore 30 = .ok (.iconst 0, 1) := dX9_restore_k66.1
theorem dX9_restore_31 : decode cX9_restore 31 = .ok (.istore_n 3, 1) := dX9_restore_k66.2.1
theorem dX9_restore_32 : decode cX9_restore 32 = .ok (.iload_n 3, 1) := dX9_restore_k66.2.2.1
theorem dX9_restore_33 : decode cX9_restore 33 = .ok (.bipush 24, 2) := dX9_restore_k66.2.2.2.1
theorem dX9_restore_35 : decode cX9_restore 35 = .ok (.if_icmp .ge 23, 3) := dX9_restore_k66.2.2.2.2.1
theorem dX9_restore_38 : decode cX9_restore 38 = .ok (.aload_n 0, 1) := dX9_restore_k66.2.2.2.2.2
set_option maxRecDepth 100000 in
theorem dX9_restore_k67 : (decode cX9_restore 39 = .ok (.getfield 13, 3)) ∧ (decode cX9_restore 42 = .ok (.iload_n 3, 1)) ∧ (decode cX9_restore 43 = .ok (.aload_n 0, 1)) ∧ (decode cX9_restore 44 = .ok (.getfield 78, 3)) ∧ (decode cX9_restore 47 = .ok (.iload_n 2, 1)) ∧ (decode cX9_restore 48 = .ok (.iload_n 3, 1)) := by decide +kernel
theorem dX9_restore_39 : decode cX9_restore 39 = .ok (.getfield 13, 3) := dX9_restore_k67.1
theorem dX9_restore_42 : decode cX9_restore 42 = .ok (.iload_n 3, 1) := dX9_restore_k67.2.1
theorem dX9_restore_43 : decode cX9_restore 43 = .ok (.aload_n 0, 1) := dX9_restore_k67.2.2.1
theorem dX9_restore_44 : decode cX9_restore 44 = .ok (.getfield 78, 3) := dX9_restore_k67.2.2.2.1
theorem dX9_restore_47 : decode cX9_restore 47 = .ok (.iload_n 2, 1) := dX9_restore_k67.2.2.2.2.1
theorem dX9_restore_48 : decode cX9_restore 48 = .ok (.iload_n 3, 1) := dX9_restore_k67.2.2.2.2.2
set_option maxRecDepth 100000 in
theorem dX9_restore_k68 : (decode cX9_restore 49 = .ok (.iadd, 1)) ∧ (decode cX9_restore 50 = .ok (.iaload, 1)) ∧ (decode cX9_restore 51 = .ok (.iastore, 1)) ∧ (decode cX9_restore 52 = .ok (.iinc 3 1, 3)) ∧ (decode cX9_restore 55 = .ok (.goto (-23), 3)) ∧ (decode cX9_restore 58 = .ok (.iconst 0, 1)) := by decide +kernel
theorem dX9_restore_49 : decode cX9_restore 49 = .ok (.iadd, 1) := dX9_restore_k68.1
theorem dX9_restore_50 : decode cX9_restore 50 = .ok (.iaload, 1) := dX9_restore_k68.2.1
theorem dX9_restore_51 : decode cX9_restore 51 = .ok (.iastore, 1) := dX9_restore_k68.2.2.1
theorem dX9_restore_52 : decode cX9_restore 52 = .ok (.iinc 3 1, 3) := dX9_restore_k68.2.2.2.1
theorem dX9_restore_55 : decode cX9_restore 55 = .ok (.goto (-23), 3) := dX9_restore_k68.2.2.2.2.1
theorem dX9_restore_58 : decode cX9_restore 58 = .ok (.iconst 0, 1) := dX9_restore_k68.2.2.2.2.2
set_option maxRecDepth 100000 in
theorem dX9_restore_k69 : (decode cX9_restore 59 = .ok (.istore_n 3, 1)) ∧ (decode cX9_restore 60 = .ok (.iload_n 3, 1)) ∧ (decode cX9_restore 61 = .ok (.bipush 36, 2)) ∧ (decode cX9_restore 63 = .ok (.if_icmp .ge 26, 3)) ∧ (decode cX9_restore 66 = .ok (.aload_n 0, 1)) ∧ (decode cX9_restore 67 = .ok (.getfield 23, 3)) := by decide +kernel
theorem dX9_restore_59 : decode cX9_restore 59 = .ok (.istore_n 3, 1) := dX9_restore_k69.1
theorem dX9_restore_60 : decode cX9_restore 60 = .ok (.iload_n 3, 1) := dX9_restore_k69.2.1
theorem dX9_restore_61 : decode cX9_restore 61 = .ok (.bipush 36, 2) := dX9_restore_k69.2.2.1
theorem dX9_restore_63 : decode cX9_restore 63 = .ok (.if_icmp .ge 26, 3) := dX9_restore_k69.2.2.2.1
theorem dX9_restore_66 : decode cX9_restore 66 = .ok (.aload_n 0, 1) := dX9_restore_k69.2.2.2.2.1
theorem dX9_restore_67 : decode cX9_restore 67 = .ok (.getfield 23, 3) := dX9_restore_k69.2.2.2.2.2
set_option maxRecDepth 100000 in
theorem dX9_restore_k70 : (decode cX9_restore 70 = .ok (.iload_n 3, 1)) ∧ (decode cX9_restore 71 = .ok (.aload_n 0, 1)) ∧ (decode cX9_restore 72 = .ok (.getfield 78, 3)) ∧ (decode cX9_restore 75 = .ok (.iload_n 2, 1)) ∧ (decode cX9_restore 76 = .ok (.bipush 24, 2)) ∧ (decode cX9_restore 78 = .ok (.iadd, 1)) := by decide +kernel
theorem dX9_restore_70 : decode cX9_restore 70 = .ok (.iload_n 3, 1) := dX9_restore_k70.1
theorem dX9_restore_71 : decode cX9_restore 71 = .ok (.aload_n 0, 1) := dX9_restore_k70.2.1
theorem dX9_restore_72 : decode cX9_restore 72 = .ok (.getfield 78, 3) := dX9_restore_k70.2.2.1
theorem dX9_restore_75 : decode cX9_restore 75 = .ok (.iload_n 2, 1) := dX9_restore_k70.2.2.2.1
theorem dX9_restore_76 : decode cX9_restore 76 = .ok (.bipush 24, 2) := dX9_restore_k70.2.2.2.2.1
theorem dX9_restore_78 : decode cX9_restore 78 = .ok (.iadd, 1) := dX9_restore_k70.2.2.2.2.2
set_option maxRecDepth 100000 in
theorem dX9_restore_k71 : (decode cX9_restore 79 = .ok (.iload_n 3, 1)) ∧ (decode cX9_restore 80 = .ok (.iadd, 1)) ∧ (decode cX9_restore 81 = .ok (.iaload, 1)) ∧ (decode cX9_restore 82 = .ok (.iastore, 1)) ∧ (decode cX9_restore 83 = .ok (.iinc 3 1, 3)) ∧ (decode cX9_restore 86 = .ok (.goto (-26), 3)) := by decide +kernel
theorem dX9_restore_79 : decode cX9_restore 79 = .ok (.iload_n 3, 1) := dX9_restore_k71.1
theorem dX9_restore_80 : decode cX9_restore 80 = .ok (.iadd, 1) := dX9_restore_k71.2.1
theorem dX9_restore_81 : decode cX9_restore 81 = .ok (.iaload, 1) := dX9_restore_k71.2.2.1
theorem dX9_restore_82 : decode cX9_restore 82 = .ok (.iastore, 1) := dX9_restore_k71.2.2.2.1
theorem dX9_restore_83 : decode cX9_restore 83 = .ok (.iinc 3 1, 3) := dX9_restore_k71.2.2.2.2.1
theorem dX9_restore_86 : decode cX9_restore 86 = .ok (.goto (-26), 3) := dX9_restore_k71.2.2.2.2.2
set_option maxRecDepth 100000 in
theorem dX9_restore_k72 : (decode cX9_restore 89 = .ok (.iconst 0, 1)) ∧ (decode cX9_restore 90 = .ok (.istore_n 3, 1)) ∧ (decode cX9_restore 91 = .ok (.iload_n 3, 1)) ∧ (decode cX9_restore 92 = .ok (.bipush 40, 2)) ∧ (decode cX9_restore 94 = .ok (.if_icmp .ge 26, 3)) ∧ (decode cX9_restore 97 = .ok (.aload_n 0, 1)) := by decide +kernel
theorem dX9_restore_89 : decode cX9_restore 89 = .ok (.iconst 0, 1) := dX9_restore_k72.1
theorem dX9_restore_90 : decode cX9_restore 90 = .ok (.istore_n 3, 1) := dX9_restore_k72.2.1
theorem dX9_restore_91 : decode cX9_restore 91 = .ok (.iload_n 3, 1) := dX9_restore_k72.2.2.1
theorem dX9_restore_92 : decode cX9_restore 92 = .ok (.bipush 40, 2) := dX9_restore_k72.2.2.2.1
theorem dX9_restore_94 : decode cX9_restore 94 = .ok (.if_icmp .ge 26, 3) := dX9_restore_k72.2.2.2.2.1
theorem dX9_restore_97 : decode cX9_restore 97 = .ok (.aload_n 0, 1) := dX9_restore_k72.2.2.2.2.2
set_option maxRecDepth 100000 in
theorem dX9_restore_k73 : (decode cX9_restore 98 = .ok (.getfield 26, 3)) ∧ (decode cX9_restore 101 = .ok (.iload_n 3, 1)) ∧ (decode cX9_restore 102 = .ok (.aload_n 0, 1)) ∧ (decode cX9_restore 103 = .ok (.getfield 78, 3)) ∧ (decode cX9_restore 106 = .ok (.iload_n 2, 1)) ∧ (decode cX9_restore 107 = .ok (.bipush 60, 2)) := by decide +kernel
theorem dX9_restore_98 : decode cX9_restore 98 = .ok (.getfield 26, 3) := dX9_restore_k73.1
theorem dX9_restore_101 : decode cX9_restore 101 = .ok (.iload_n 3, 1) := dX9_restore_k73.2.1
theorem dX9_restore_102 : decode cX9_restore 102 = .ok (.aload_n 0, 1) := dX9_restore_k73.2.2.1
theorem dX9_restore_103 : decode cX9_restore 103 = .ok (.getfield 78, 3) := dX9_restore_k73.2.2.2.1
theorem dX9_restore_106 : decode cX9_restore 106 = .ok (.iload_n 2, 1) := dX9_restore_k73.2.2.2.2.1
theorem dX9_restore_107 : decode cX9_restore 107 = .ok (.bipush 60, 2) := dX9_restore_k73.2.2.2.2.2
set_option maxRecDepth 100000 in
theorem dX9_restore_k74 : (decode cX9_restore 109 = .ok (.iadd, 1)) ∧ (decode cX9_restore 110 = .ok (.iload_n 3, 1)) ∧ (decode cX9_restore 111 = .ok (.iadd, 1)) ∧ (decode cX9_restore 112 = .ok (.iaload, 1)) ∧ (decode cX9_restore 113 = .ok (.iastore, 1)) ∧ (decode cX9_restore 114 = .ok (.iinc 3 1, 3)) := by decide +kernel
theorem dX9_restore_109 : decode cX9_restore 109 = .ok (.iadd, 1) := dX9_restore_k74.1
theorem dX9_restore_110 : decode cX9_restore 110 = .ok (.iload_n 3, 1) := dX9_restore_k74.2.1
theorem dX9_restore_111 : decode cX9_restore 111 = .ok (.iadd, 1) := dX9_restore_k74.2.2.1
theorem dX9_restore_112 : decode cX9_restore 112 = .ok (.iaload, 1) := dX9_restore_k74.2.2.2.1
theorem dX9_restore_113 : decode cX9_restore 113 = .ok (.iastore, 1) := dX9_restore_k74.2.2.2.2.1
theorem dX9_restore_114 : decode cX9_restore 114 = .ok (.iinc 3 1, 3) := dX9_restore_k74.2.2.2.2.2
set_option maxRecDepth 100000 in
theorem dX9_restore_k75 : (decode cX9_restore 117 = .ok (.goto (-26), 3)) ∧ (decode cX9_restore 120 = .ok (.iconst 0, 1)) ∧ (decode cX9_restore 121 = .ok (.istore_n 3, 1)) ∧ (decode cX9_restore 122 = .ok (.iload_n 3, 1)) ∧ (decode cX9_restore 123 = .ok (.bipush 8, 2)) ∧ (decode cX9_restore 125 = .ok (.if_icmp .ge 77, 3)) := by decide +kernel
theorem dX9_restore_117 : decode cX9_restore 117 = .ok (.goto (-26), 3) := dX9_restore_k75.1
theorem dX9_restore_120 : decode cX9_restore 120 = .ok (.iconst 0, 1) := dX9_restore_k75.2.1
theorem dX9_restore_121 : decode cX9_restore 121 = .ok (.istore_n 3, 1) := dX9_restore_k75.2.2.1
theorem dX9_restore_122 : decode cX9_restore 122 = .ok (.iload_n 3, 1) := dX9_restore_k75.2.2.2.1
theorem dX9_restore_123 : decode cX9_restore 123 = .ok (.bipush 8, 2) := dX9_restore_k75.2.2.2.2.1
theorem dX9_restore_125 : decode cX9_restore 125 = .ok (.if_icmp .ge 77, 3) := dX9_restore_k75.2.2.2.2.2
set_option maxRecDepth 100000 in
theorem dX9_restore_k76 : (decode cX9_restore 128 = .ok (.aload_n 0, 1)) ∧ (decode cX9_restore 129 = .ok (.getfield 29, 3)) ∧ (decode cX9_restore 132 = .ok (.iload_n 3, 1)) ∧ (decode cX9_restore 133 = .ok (.aload_n 0, 1)) ∧ (decode cX9_restore 134 = .ok (.getfield 78, 3)) ∧ (decode cX9_restore 137 = .ok (.iload_n 2, 1)) := by decide +kernel
theorem dX9_restore_128 : decode cX9_restore 128 = .ok (.aload_n 0, 1) := dX9_restore_k76.1
theorem dX9_restore_129 : decode cX9_restore 129 = .ok (.getfield 29, 3) := dX9_restore_k76.2.1
theorem dX9_restore_132 : decode cX9_restore 132 = .ok (.iload_n 3, 1) := dX9_restore_k76.2.2.1
theorem dX9_restore_133 : decode cX9_restore 133 = .ok (.aload_n 0, 1) := dX9_restore_k76.2.2.2.1
theorem dX9_restore_134 : decode cX9_restore 134 = .ok (.getfield 78, 3) := dX9_restore_k76.2.2.2.2.1
theorem dX9_restore_137 : decode cX9_restore 137 = .ok (.iload_n 2, 1) := dX9_restore_k76.2.2.2.2.2
set_option maxRecDepth 100000 in
theorem dX9_restore_k77 : (decode cX9_restore 138 = .ok (.bipush 100, 2)) ∧ (decode cX9_restore 140 = .ok (.iadd, 1)) ∧ (decode cX9_restore 141 = .ok (.iload_n 3, 1)) ∧ (decode cX9_restore 142 = .ok (.iadd, 1)) ∧ (decode cX9_restore 143 = .ok (.iaload, 1)) ∧ (decode cX9_restore 144 = .ok (.iastore, 1)) := by decide +kernel
theorem dX9_restore_138 : decode cX9_restore 138 = .ok (.bipush 100, 2) := dX9_restore_k77.1
theorem dX9_restore_140 : decode cX9_restore 140 = .ok (.iadd, 1) := dX9_restore_k77.2.1
theorem dX9_restore_141 : decode cX9_restore 141 = .ok (.iload_n 3, 1) := dX9_restore_k77.2.2.1
theorem dX9_restore_142 : decode cX9_restore 142 = .ok (.iadd, 1) := dX9_restore_k77.2.2.2.1
theorem dX9_restore_143 : decode cX9_restore 143 = .ok (.iaload, 1) := dX9_restore_k77.2.2.2.2.1
theorem dX9_restore_144 : decode cX9_restore 144 = .ok (.iastore, 1) := dX9_restore_k77.2.2.2.2.2
set_option maxRecDepth 100000 in
theorem dX9_restore_k78 : (decode cX9_restore 145 = .ok (.aload_n 0, 1)) ∧ (decode cX9_restore 146 = .ok (.getfield 32, 3)) ∧ (decode cX9_restore 149 = .ok (.iload_n 3, 1)) ∧ (decode cX9_restore 150 = .ok (.aload_n 0, 1)) ∧ (decode cX9_restore 151 = .ok (.getfield 78, 3)) ∧ (decode cX9_restore 154 = .ok (.iload_n 2, 1)) := by decide +kernel
theorem dX9_restore_145 : decode cX9_restore 145 = .ok (.aload_n 0, 1) := dX9_restore_k78.1
theorem dX9_restore_146 : decode cX9_restore 146 = .ok (.getfield 32, 3) := dX9_restore_k78.2.1
theorem dX9_restore_149 : decode cX9_restore 149 = .ok (.iload_n 3, 1) := dX9_restore_k78.2.2.1
theorem dX9_restore_150 : decode cX9_restore 150 = .ok (.aload_n 0, 1) := dX9_restore_k78.2.2.2.1
theorem dX9_restore_151 : decode cX9_restore 151 = .ok (.getfield 78, 3) := dX9_restore_k78.2.2.2.2.1
theorem dX9_restore_154 : decode cX9_restore 154 = .ok (.iload_n 2, 1) := dX9_restore_k78.2.2.2.2.2
set_option maxRecDepth 100000 in
theorem dX9_restore_k79 : (decode cX9_restore 155 = .ok (.bipush 108, 2)) ∧ (decode cX9_restore 157 = .ok (.iadd, 1)) ∧ (decode cX9_restore 158 = .ok (.iload_n 3, 1)) ∧ (decode cX9_restore 159 = .ok (.iadd, 1)) ∧ (decode cX9_restore 160 = .ok (.iaload, 1)) ∧ (decode cX9_restore 161 = .ok (.iastore, 1)) := by decide +kernel
theorem dX9_restore_155 : decode cX9_restore 155 = .ok (.bipush 108, 2) := dX9_restore_k79.1
theorem dX9_restore_157 : decode cX9_restore 157 = .ok (.iadd, 1) := dX9_restore_k79.2.1
theorem dX9_restore_158 : decode cX9_restore 158 = .ok (.iload_n 3, 1) := dX9_restore_k79.2.2.1
theorem dX9_restore_159 : decode cX9_restore 159 = .ok (.iadd, 1) := dX9_restore_k79.2.2.2.1
theorem dX9_restore_160 : decode cX9_restore 160 = .ok (.iaload, 1) := dX9_restore_k79.2.2.2.2.1
theorem dX9_restore_161 : decode cX9_restore 161 = .ok (.iastore, 1) := dX9_restore_k79.2.2.2.2.2
set_option maxRecDepth 100000 in
theorem dX9_restore_k80 : (decode cX9_restore 162 = .ok (.aload_n 0, 1)) ∧ (decode cX9_restore 163 = .ok (.getfield 35, 3)) ∧ (decode cX9_restore 166 = .ok (.iload_n 3, 1)) ∧ (decode cX9_restore 167 = .ok (.aload_n 0, 1)) ∧ (decode cX9_restore 168 = .ok (.getfield 78, 3)) ∧ (decode cX9_restore 171 = .ok (.iload_n 2, 1)) := by decide +kernel
theorem dX9_restore_162 : decode cX9_restore 162 = .ok (.aload_n 0, 1) := dX9_restore_k80.1
theorem dX9_restore_163 : decode cX9_restore 163 = .ok (.getfield 35, 3) := dX9_restore_k80.2.1
theorem dX9_restore_166 : decode cX9_restore 166 = .ok (.iload_n 3, 1) := dX9_restore_k80.2.2.1
theorem dX9_restore_167 : decode cX9_restore 167 = .ok (.aload_n 0, 1) := dX9_restore_k80.2.2.2.1
theorem dX9_restore_168 : decode cX9_restore 168 = .ok (.getfield 78, 3) := dX9_restore_k80.2.2.2.2.1
theorem dX9_restore_171 : decode cX9_restore 171 = .ok (.iload_n 2, 1) := dX9_restore_k80.2.2.2.2.2
set_option maxRecDepth 100000 in
theorem dX9_restore_k81 : (decode cX9_restore 172 = .ok (.bipush 116, 2)) ∧ (decode cX9_restore 174 = .ok (.iadd, 1)) ∧ (decode cX9_restore 175 = .ok (.iload_n 3, 1)) ∧ (decode cX9_restore 176 = .ok (.iadd, 1)) ∧ (decode cX9_restore 177 = .ok (.iaload, 1)) ∧ (decode cX9_restore 178 = .ok (.iastore, 1)) := by decide +kernel
theorem dX9_restore_172 : decode cX9_restore 172 = .ok (.bipush 116, 2) := dX9_restore_k81.1
theorem dX9_restore_174 : decode cX9_restore 174 = .ok (.iadd, 1) := dX9_restore_k81.2.1
theorem dX9_restore_175 : decode cX9_restore 175 = .ok (.iload_n 3, 1) := dX9_restore_k81.2.2.1
theorem dX9_restore_176 : decode cX9_restore 176 = .ok (.iadd, 1) := dX9_restore_k81.2.2.2.1
theorem dX9_restore_177 : decode cX9_restore 177 = .ok (.iaload, 1) := dX9_restore_k81.2.2.2.2.1
theorem dX9_restore_178 : decode cX9_restore 178 = .ok (.iastore, 1) := dX9_restore_k81.2.2.2.2.2
set_option maxRecDepth 100000 in
theorem dX9_restore_k82 : (decode cX9_restore 179 = .ok (.aload_n 0, 1)) ∧ (decode cX9_restore 180 = .ok (.getfield 38, 3)) ∧ (decode cX9_restore 183 = .ok (.iload_n 3, 1)) ∧ (decode cX9_restore 184 = .ok (.aload_n 0, 1)) ∧ (decode cX9_restore 185 = .ok (.getfield 78, 3)) ∧ (decode cX9_restore 188 = .ok (.iload_n 2, 1)) := by decide +kernel
theorem dX9_restore_179 : decode cX9_restore 179 = .ok (.aload_n 0, 1) := dX9_restore_k82.1
theorem dX9_restore_180 : decode cX9_restore 180 = .ok (.getfield 38, 3) := dX9_restore_k82.2.1
theorem dX9_restore_183 : decode cX9_restore 183 = .ok (.iload_n 3, 1) := dX9_restore_k82.2.2.1
theorem dX9_restore_184 : decode cX9_restore 184 = .ok (.aload_n 0, 1) := dX9_restore_k82.2.2.2.1
theorem dX9_restore_185 : decode cX9_restore 185 = .ok (.getfield 78, 3) := dX9_restore_k82.2.2.2.2.1
theorem dX9_restore_188 : decode cX9_restore 188 = .ok (.iload_n 2, 1) := dX9_restore_k82.2.2.2.2.2
set_option maxRecDepth 100000 in
theorem dX9_restore_k83 : (decode cX9_restore 189 = .ok (.bipush 124, 2)) ∧ (decode cX9_restore 191 = .ok (.iadd, 1)) ∧ (decode cX9_restore 192 = .ok (.iload_n 3, 1)) ∧ (decode cX9_restore 193 = .ok (.iadd, 1)) ∧ (decode cX9_restore 194 = .ok (.iaload, 1)) ∧ (decode cX9_restore 195 = .ok (.iastore, 1)) := by decide +kernel
theorem dX9_restore_189 : decode cX9_restore 189 = .ok (.bipush 124, 2) := dX9_restore_k83.1
theorem dX9_restore_191 : decode cX9_restore 191 = .ok (.iadd, 1) := dX9_restore_k83.2.1
theorem dX9_restore_192 : decode cX9_restore 192 = .ok (.iload_n 3, 1) := dX9_restore_k83.2.2.1
theorem dX9_restore_193 : decode cX9_restore 193 = .ok (.iadd, 1) := dX9_restore_k83.2.2.2.1
theorem dX9_restore_194 : decode cX9_restore 194 = .ok (.iaload, 1) := dX9_restore_k83.2.2.2.2.1
theorem dX9_restore_195 : decode cX9_restore 195 = .ok (.iastore, 1) := dX9_restore_k83.2.2.2.2.2
set_option maxRecDepth 100000 in
theorem dX9_restore_k84 : (decode cX9_restore 196 = .ok (.iinc 3 1, 3)) ∧ (decode cX9_restore 199 = .ok (.goto (-77), 3)) ∧ (decode cX9_restore 202 = .ok (.iconst 0, 1)) ∧ (decode cX9_restore 203 = .ok (.istore_n 3, 1)) ∧ (decode cX9_restore 204 = .ok (.iload_n 3, 1)) ∧ (decode cX9_restore 205 = .ok (.bipush 12, 2)) := by decide +kernel
theorem dX9_restore_196 : decode cX9_restore 196 = .ok (.iinc 3 1, 3) := dX9_restore_k84.1
theorem dX9_restore_199 : decode cX9_restore 199 = .ok (.goto (-77), 3) := dX9_restore_k84.2.1
theorem dX9_restore_202 : decode cX9_restore 202 = .ok (.iconst 0, 1) := dX9_restore_k84.2.2.1
theorem dX9_restore_203 : decode cX9_restore 203 = .ok (.istore_n 3, 1) := dX9_restore_k84.2.2.2.1
theorem dX9_restore_204 : decode cX9_restore 204 = .ok (.iload_n 3, 1) := dX9_restore_k84.2.2.2.2.1
theorem dX9_restore_205 : decode cX9_restore 205 = .ok (.bipush 12, 2) := dX9_restore_k84.2.2.2.2.2
set_option maxRecDepth 100000 in
theorem dX9_restore_k85 : (decode cX9_restore 207 = .ok (.if_icmp .ge 27, 3)) ∧ (decode cX9_restore 210 = .ok (.aload_n 0, 1)) ∧ (decode cX9_restore 211 = .ok (.getfield 41, 3)) ∧ (decode cX9_restore 214 = .ok (.iload_n 3, 1)) ∧ (decode cX9_restore 215 = .ok (.aload_n 0, 1)) ∧ (decode cX9_restore 216 = .ok (.getfield 78, 3)) := by decide +kernel
theorem dX9_restore_207 : decode cX9_restore 207 = .ok (.if_icmp .ge 27, 3) := dX9_restore_k85.1
theorem dX9_restore_210 : decode cX9_restore 210 = .ok (.aload_n 0, 1) := dX9_restore_k85.2.1
theorem dX9_restore_211 : decode cX9_restore 211 = .ok (.getfield 41, 3) := dX9_restore_k85.2.2.1
theorem dX9_restore_214 : decode cX9_restore 214 = .ok (.iload_n 3, 1) := dX9_restore_k85.2.2.2.1
theorem dX9_restore_215 : decode cX9_restore 215 = .ok (.aload_n 0, 1) := dX9_restore_k85.2.2.2.2.1
theorem dX9_restore_216 : decode cX9_restore 216 = .ok (.getfield 78, 3) := dX9_restore_k85.2.2.2.2.2
set_option maxRecDepth 100000 in
theorem dX9_restore_k86 : (decode cX9_restore 219 = .ok (.iload_n 2, 1)) ∧ (decode cX9_restore 220 = .ok (.sipush 132, 3)) ∧ (decode cX9_restore 223 = .ok (.iadd, 1)) ∧ (decode cX9_restore 224 = .ok (.iload_n 3, 1)) ∧ (decode cX9_restore 225 = .ok (.iadd, 1)) ∧ (decode cX9_restore 226 = .ok (.iaload, 1)) := by decide +kernel
theorem dX9_restore_219 : decode cX9_restore 219 = .ok (.iload_n 2, 1) := dX9_restore_k86.1
theorem dX9_restore_220 : decode cX9_restore 220 = .ok (.sipush 132, 3) := dX9_restore_k86.2.1
theorem dX9_restore_223 : decode cX9_restore 223 = .ok (.iadd, 1) := dX9_restore_k86.2.2.1
theorem dX9_restore_224 : decode cX9_restore 224 = .ok (.iload_n 3, 1) := dX9_restore_k86.2.2.2.1
theorem dX9_restore_225 : decode cX9_restore 225 = .ok (.iadd, 1) := dX9_restore_k86.2.2.2.2.1
theorem dX9_restore_226 : decode cX9_restore 226 = .ok (.iaload, 1) := dX9_restore_k86.2.2.2.2.2
set_option maxRecDepth 100000 in
theorem dX9_restore_k87 : (decode cX9_restore 227 = .ok (.iastore, 1)) ∧ (decode cX9_restore 228 = .ok (.iinc 3 1, 3)) ∧ (decode cX9_restore 231 = .ok (.goto (-27), 3)) ∧ (decode cX9_restore 234 = .ok (.iconst 0, 1)) ∧ (decode cX9_restore 235 = .ok (.istore_n 3, 1)) ∧ (decode cX9_restore 236 = .ok (.iload_n 3, 1)) := by decide +kernel
theorem dX9_restore_227 : decode cX9_restore 227 = .ok (.iastore, 1) := dX9_restore_k87.1
theorem dX9_restore_228 : decode cX9_restore 228 = .ok (.iinc 3 1, 3) := dX9_restore_k87.2.1
theorem dX9_restore_231 : decode cX9_restore 231 = .ok (.goto (-27), 3) := dX9_restore_k87.2.2.1
theorem dX9_restore_234 : decode cX9_restore 234 = .ok (.iconst 0, 1) := dX9_restore_k87.2.2.2.1
theorem dX9_restore_235 : decode cX9_restore 235 = .ok (.istore_n 3, 1) := dX9_restore_k87.2.2.2.2.1
theorem dX9_restore_236 : decode cX9_restore 236 = .ok (.iload_n 3, 1) := dX9_restore_k87.2.2.2.2.2
set_option maxRecDepth 100000 in
theorem dX9_restore_k88 : (decode cX9_restore 237 = .ok (.bipush 6, 2)) ∧ (decode cX9_restore 239 = .ok (.if_icmp .ge 45, 3)) ∧ (decode cX9_restore 242 = .ok (.aload_n 0, 1)) ∧ (decode cX9_restore 243 = .ok (.getfield 17, 3)) ∧ (decode cX9_restore 246 = .ok (.iload_n 3, 1)) ∧ (decode cX9_restore 247 = .ok (.aload_n 0, 1)) := by decide +kernel
theorem dX9_restore_237 : decode cX9_restore 237 = .ok (.bipush 6, 2) := dX9_restore_k88.1
theorem dX9_restore_239 : decode cX9_restore 239 = .ok (.if_icmp .ge 45, 3) := dX9_restore_k88.2.1
theorem dX9_restore_242 : decode cX9_restore 242 = .ok (.aload_n 0, 1) := dX9_restore_k88.2.2.1
theorem dX9_restore_243 : decode cX9_restore 243 = .ok (.getfield 17, 3) := dX9_restore_k88.2.2.2.1
theorem dX9_restore_246 : decode cX9_restore 246 = .ok (.iload_n 3, 1) := dX9_restore_k88.2.2.2.2.1
theorem dX9_restore_247 : decode cX9_restore 247 = .ok (.aload_n 0, 1) := dX9_restore_k88.2.2.2.2.2
set_option maxRecDepth 100000 in
theorem dX9_restore_k89 : (decode cX9_restore 248 = .ok (.getfield 78, 3)) ∧ (decode cX9_restore 251 = .ok (.iload_n 2, 1)) ∧ (decode cX9_restore 252 = .ok (.sipush 144, 3)) ∧ (decode cX9_restore 255 = .ok (.iadd, 1)) ∧ (decode cX9_restore 256 = .ok (.iload_n 3, 1)) ∧ (decode cX9_restore 257 = .ok (.iadd, 1)) := by decide +kernel
theorem dX9_restore_248 : decode cX9_restore 248 = .ok (.getfield 78, 3) := dX9_restore_k89.1
theorem dX9_restore_251 : decode cX9_restore 251 = .ok (.iload_n 2, 1) := dX9_restore_k89.2.1
theorem dX9_restore_252 : decode cX9_restore 252 = .ok (.sipush 144, 3) := dX9_restore_k89.2.2.1
theorem dX9_restore_255 : decode cX9_restore 255 = .ok (.iadd, 1) := dX9_restore_k89.2.2.2.1
theorem dX9_restore_256 : decode cX9_restore 256 = .ok (.iload_n 3, 1) := dX9_restore_k89.2.2.2.2.1
theorem dX9_restore_257 : decode cX9_restore 257 = .ok (.iadd, 1) := dX9_restore_k89.2.2.2.2.2
set_option maxRecDepth 100000 in
theorem dX9_restore_k90 : (decode cX9_restore 258 = .ok (.iaload, 1)) ∧ (decode cX9_restore 259 = .ok (.iastore, 1)) ∧ (decode cX9_restore 260 = .ok (.aload_n 0, 1)) ∧ (decode cX9_restore 261 = .ok (.getfield 20, 3)) ∧ (decode cX9_restore 264 = .ok (.iload_n 3, 1)) ∧ (decode cX9_restore 265 = .ok (.aload_n 0, 1)) := by decide +kernel
theorem dX9_restore_258 : decode cX9_restore 258 = .ok (.iaload, 1) := dX9_restore_k90.1
theorem dX9_restore_259 : decode cX9_restore 259 = .ok (.iastore, 1) := dX9_restore_k90.2.1
theorem dX9_restore_260 : decode cX9_restore 260 = .ok (.aload_n 0, 1) := dX9_restore_k90.2.2.1
theorem dX9_restore_261 : decode cX9_restore 261 = .ok (.getfield 20, 3) := dX9_restore_k90.2.2.2.1
theorem dX9_restore_264 : decode cX9_restore 264 = .ok (.iload_n 3, 1) := dX9_restore_k90.2.2.2.2.1
theorem dX9_restore_265 : decode cX9_restore 265 = .ok (.aload_n 0, 1) := dX9_restore_k90.2.2.2.2.2
set_option maxRecDepth 100000 in
theorem dX9_restore_k91 : (decode cX9_restore 266 = .ok (.getfield 78, 3)) ∧ (decode cX9_restore 269 = .ok (.iload_n 2, 1)) ∧ (decode cX9_restore 270 = .ok (.sipush 150, 3)) ∧ (decode cX9_restore 273 = .ok (.iadd, 1)) ∧ (decode cX9_restore 274 = .ok (.iload_n 3, 1)) ∧ (decode cX9_restore 275 = .ok (.iadd, 1)) := by decide +kernel
theorem dX9_restore_266 : decode cX9_restore 266 = .ok (.getfield 78, 3) := dX9_restore_k91.1
theorem dX9_restore_269 : decode cX9_restore 269 = .ok (.iload_n 2, 1) := dX9_restore_k91.2.1
theorem dX9_restore_270 : decode cX9_restore 270 = .ok (.sipush 150, 3) := dX9_restore_k91.2.2.1
theorem dX9_restore_273 : decode cX9_restore 273 = .ok (.iadd, 1) := dX9_restore_k91.2.2.2.1
theorem dX9_restore_274 : decode cX9_restore 274 = .ok (.iload_n 3, 1) := dX9_restore_k91.2.2.2.2.1
theorem dX9_restore_275 : decode cX9_restore 275 = .ok (.iadd, 1) := dX9_restore_k91.2.2.2.2.2
set_option maxRecDepth 100000 in
theorem dX9_restore_k92 : (decode cX9_restore 276 = .ok (.iaload, 1)) ∧ (decode cX9_restore 277 = .ok (.iastore, 1)) ∧ (decode cX9_restore 278 = .ok (.iinc 3 1, 3)) ∧ (decode cX9_restore 281 = .ok (.goto (-45), 3)) ∧ (decode cX9_restore 284 = .ok (.aload_n 0, 1)) ∧ (decode cX9_restore 285 = .ok (.aload_n 0, 1)) := by decide +kernel
theorem dX9_restore_276 : decode cX9_restore 276 = .ok (.iaload, 1) := dX9_restore_k92.1
theorem dX9_restore_277 : decode cX9_restore 277 = .ok (.iastore, 1) := dX9_restore_k92.2.1
theorem dX9_restore_278 : decode cX9_restore 278 = .ok (.iinc 3 1, 3) := dX9_restore_k92.2.2.1
theorem dX9_restore_281 : decode cX9_restore 281 = .ok (.goto (-45), 3) := dX9_restore_k92.2.2.2.1
theorem dX9_restore_284 : decode cX9_restore 284 = .ok (.aload_n 0, 1) := dX9_restore_k92.2.2.2.2.1
theorem dX9_restore_285 : decode cX9_restore 285 = .ok (.aload_n 0, 1) := dX9_restore_k92.2.2.2.2.2
set_option maxRecDepth 100000 in
theorem dX9_restore_k93 : (decode cX9_restore 286 = .ok (.getfield 78, 3)) ∧ (decode cX9_restore 289 = .ok (.iload_n 2, 1)) ∧ (decode cX9_restore 290 = .ok (.sipush 156, 3)) ∧ (decode cX9_restore 293 = .ok (.iadd, 1)) ∧ (decode cX9_restore 294 = .ok (.iaload, 1)) ∧ (decode cX9_restore 295 = .ok (.putfield 7, 3)) := by decide +kernel
theorem dX9_restore_286 : decode cX9_restore 286 = .ok (.getfield 78, 3) := dX9_restore_k93.1
theorem dX9_restore_289 : decode cX9_restore 289 = .ok (.iload_n 2, 1) := dX9_restore_k93.2.1
theorem dX9_restore_290 : decode cX9_restore 290 = .ok (.sipush 156, 3) := dX9_restore_k93.2.2.1
theorem dX9_restore_293 : decode cX9_restore 293 = .ok (.iadd, 1) := dX9_restore_k93.2.2.2.1
theorem dX9_restore_294 : decode cX9_restore 294 = .ok (.iaload, 1) := dX9_restore_k93.2.2.2.2.1
theorem dX9_restore_295 : decode cX9_restore 295 = .ok (.putfield 7, 3) := dX9_restore_k93.2.2.2.2.2
set_option maxRecDepth 100000 in
theorem dX9_restore_k94 : (decode cX9_restore 298 = .ok (.aload_n 0, 1)) ∧ (decode cX9_restore 299 = .ok (.aload_n 0, 1)) ∧ (decode cX9_restore 300 = .ok (.getfield 78, 3)) ∧ (decode cX9_restore 303 = .ok (.iload_n 2, 1)) ∧ (decode cX9_restore 304 = .ok (.sipush 157, 3)) ∧ (decode cX9_restore 307 = .ok (.iadd, 1)) := by decide +kernel
theorem dX9_restore_298 : decode cX9_restore 298 = .ok (.aload_n 0, 1) := dX9_restore_k94.1
theorem dX9_restore_299 : decode cX9_restore 299 = .ok (.aload_n 0, 1) := dX9_restore_k94.2.1
theorem dX9_restore_300 : decode cX9_restore 300 = .ok (.getfield 78, 3) := dX9_restore_k94.2.2.1
theorem dX9_restore_303 : decode cX9_restore 303 = .ok (.iload_n 2, 1) := dX9_restore_k94.2.2.2.1
theorem dX9_restore_304 : decode cX9_restore 304 = .ok (.sipush 157, 3) := dX9_restore_k94.2.2.2.2.1
theorem dX9_restore_307 : decode cX9_restore 307 = .ok (.iadd, 1) := dX9_restore_k94.2.2.2.2.2
set_option maxRecDepth 100000 in
theorem dX9_restore_k95 : (decode cX9_restore 308 = .ok (.iaload, 1)) ∧ (decode cX9_restore 309 = .ok (.putfield 88, 3)) ∧ (decode cX9_restore 312 = .ok (.aload_n 0, 1)) ∧ (decode cX9_restore 313 = .ok (.aload_n 0, 1)) ∧ (decode cX9_restore 314 = .ok (.getfield 78, 3)) ∧ (decode cX9_restore 317 = .ok (.iload_n 2, 1)) := by decide +kernel
theorem dX9_restore_308 : decode cX9_restore 308 = .ok (.iaload, 1) := dX9_restore_k95.1
theorem dX9_restore_309 : decode cX9_restore 309 = .ok (.putfield 88, 3) := dX9_restore_k95.2.1
theorem dX9_restore_312 : decode cX9_restore 312 = .ok (.aload_n 0, 1) := dX9_restore_k95.2.2.1
theorem dX9_restore_313 : decode cX9_restore 313 = .ok (.aload_n 0, 1) := dX9_restore_k95.2.2.2.1
theorem dX9_restore_314 : decode cX9_restore 314 = .ok (.getfield 78, 3) := dX9_restore_k95.2.2.2.2.1
theorem dX9_restore_317 : decode cX9_restore 317 = .ok (.iload_n 2, 1) := dX9_restore_k95.2.2.2.2.2
set_option maxRecDepth 100000 in
theorem dX9_restore_k96 : (decode cX9_restore 318 = .ok (.sipush 158, 3)) ∧ (decode cX9_restore 321 = .ok (.iadd, 1)) ∧ (decode cX9_restore 322 = .ok (.iaload, 1)) ∧ (decode cX9_restore 323 = .ok (.putfield 91, 3)) ∧ (decode cX9_restore 326 = .ok (.iconst 1, 1)) ∧ (decode cX9_restore 327 = .ok (.ireturn, 1)) := by decide +kernel
theorem dX9_restore_318 : decode cX9_restore 318 = .ok (.sipush 158, 3) := dX9_restore_k96.1
theorem dX9_restore_321 : decode cX9_restore 321 = .ok (.iadd, 1) := dX9_restore_k96.2.1
theorem dX9_restore_322 : decode cX9_restore 322 = .ok (.iaload, 1) := dX9_restore_k96.2.2.1
theorem dX9_restore_323 : decode cX9_restore 323 = .ok (.putfield 91, 3) := dX9_restore_k96.2.2.2.1
theorem dX9_restore_326 : decode cX9_restore 326 = .ok (.iconst 1, 1) := dX9_restore_k96.2.2.2.2.1
theorem dX9_restore_327 : decode cX9_restore 327 = .ok (.ireturn, 1) := dX9_restore_k96.2.2.2.2.2
set_option maxRecDepth 100000 in
theorem dX9_told_k97 : (decode cX9_told 0 = .ok (.iload_n 1, 1)) ∧ (decode cX9_told 1 = .ok (.bipush 10, 2)) ∧ (decode cX9_told 3 = .ok (.irem, 1)) ∧ (decode cX9_told 4 = .ok (.istore_n 2, 1)) ∧ (decode cX9_told 5 = .ok (.iload_n 1, 1)) ∧ (decode cX9_told 6 = .ok (.sipush 1000, 3)) := by decide +kernel
theorem dX9_told_0 : decode cX9_told 0 = .ok (.iload_n 1, 1) := dX9_told_k97.1
theorem dX9_told_1 : decode cX9_told 1 = .ok (.bipush 10, 2) := dX9_told_k97.2.1
theorem dX9_told_3 : decode cX9_told 3 = .ok (.irem, 1) := dX9_told_k97.2.2.1
theorem dX9_told_4 : decode cX9_told 4 = .ok (.istore_n 2, 1) := dX9_told_k97.2.2.2.1
theorem dX9_told_5 : decode cX9_told 5 = .ok (.iload_n 1, 1) := dX9_told_k97.2.2.2.2.1
theorem dX9_told_6 : decode cX9_told 6 = .ok (.sipush 1000, 3) := dX9_told_k97.2.2.2.2.2
set_option maxRecDepth 100000 in
theorem dX9_told_k98 : (decode cX9_told 9 = .ok (.if_icmp .lt 51, 3)) ∧ (decode cX9_told 12 = .ok (.iload_n 1, 1)) ∧ (decode cX9_told 13 = .ok (.sipush 1000, 3)) ∧ (decode cX9_told 16 = .ok (.idiv, 1)) ∧ (decode cX9_told 17 = .ok (.iconst 1, 1)) ∧ (decode cX9_told 18 = .ok (.isub, 1)) := by decide +kernel
theorem dX9_told_9 : decode cX9_told 9 = .ok (.if_icmp .lt 51, 3) := dX9_told_k98.1
theorem dX9_told_12 : decode cX9_told 12 = .ok (.iload_n 1, 1) := dX9_told_k98.2.1
theorem dX9_told_13 : decode cX9_told 13 = .ok (.sipush 1000, 3) := dX9_told_k98.2.2.1
theorem dX9_told_16 : decode cX9_told 16 = .ok (.idiv, 1) := dX9_told_k98.2.2.2.1
theorem dX9_told_17 : decode cX9_told 17 = .ok (.iconst 1, 1) := dX9_told_k98.2.2.2.2.1
theorem dX9_told_18 : decode cX9_told 18 = .ok (.isub, 1) := dX9_told_k98.2.2.2.2.2
set_option maxRecDepth 100000 in
theorem dX9_told_k99 : (decode cX9_told 19 = .ok (.istore_n 3, 1)) ∧ (decode cX9_told 20 = .ok (.aload_n 0, 1)) ∧ (decode cX9_told 21 = .ok (.iload_n 3, 1)) ∧ (decode cX9_told 22 = .ok (.invokevirtual 121, 3)) ∧ (decode cX9_told 25 = .ok (.ifCond .eq 32, 3)) ∧ (decode cX9_told 28 = .ok (.iload_n 1, 1)) := by decide +kernel
theorem dX9_told_19 : decode cX9_told 19 = .ok (.istore_n 3, 1) := dX9_told_k99.1
theorem dX9_told_20 : decode cX9_told 20 = .ok (.aload_n 0, 1) := dX9_told_k99.2.1
theorem dX9_told_21 : decode cX9_told 21 = .ok (.iload_n 3, 1) := dX9_told_k99.2.2.1
theorem dX9_told_22 : decode cX9_told 22 = .ok (.invokevirtual 121, 3) := dX9_told_k99.2.2.2.1
theorem dX9_told_25 : decode cX9_told 25 = .ok (.ifCond .eq 32, 3) := dX9_told_k99.2.2.2.2.1
theorem dX9_told_28 : decode cX9_told 28 = .ok (.iload_n 1, 1) := dX9_told_k99.2.2.2.2.2
set_option maxRecDepth 100000 in
theorem dX9_told_k100 : (decode cX9_told 29 = .ok (.sipush 1000, 3)) ∧ (decode cX9_told 32 = .ok (.irem, 1)) ∧ (decode cX9_told 33 = .ok (.iconst 5, 1)) ∧ (decode cX9_told 34 = .ok (.if_icmp .ge 23, 3)) ∧ (decode cX9_told 37 = .ok (.aload_n 0, 1)) ∧ (decode cX9_told 38 = .ok (.getfield 26, 3)) := by decide +kernel
theorem dX9_told_29 : decode cX9_told 29 = .ok (.sipush 1000, 3) := dX9_told_k100.1
theorem dX9_told_32 : decode cX9_told 32 = .ok (.irem, 1) := dX9_told_k100.2.1
theorem dX9_told_33 : decode cX9_told 33 = .ok (.iconst 5, 1) := dX9_told_k100.2.2.1
theorem dX9_told_34 : decode cX9_told 34 = .ok (.if_icmp .ge 23, 3) := dX9_told_k100.2.2.2.1
theorem dX9_told_37 : decode cX9_told 37 = .ok (.aload_n 0, 1) := dX9_told_k100.2.2.2.2.1
theorem dX9_told_38 : decode cX9_told 38 = .ok (.getfield 26, 3) := dX9_told_k100.2.2.2.2.2
set_option maxRecDepth 100000 in
theorem dX9_told_k101 : (decode cX9_told 41 = .ok (.iconst 5, 1)) ∧ (decode cX9_told 42 = .ok (.iload_n 3, 1)) ∧ (decode cX9_told 43 = .ok (.imul, 1)) ∧ (decode cX9_told 44 = .ok (.iload_n 1, 1)) ∧ (decode cX9_told 45 = .ok (.sipush 1000, 3)) ∧ (decode cX9_told 48 = .ok (.irem, 1)) := by decide +kernel
theorem dX9_told_41 : decode cX9_told 41 = .ok (.iconst 5, 1) := dX9_told_k101.1
theorem dX9_told_42 : decode cX9_told 42 = .ok (.iload_n 3, 1) := dX9_told_k101.2.1
theorem dX9_told_43 : decode cX9_told 43 = .ok (.imul, 1) := dX9_told_k101.2.2.1
theorem dX9_told_44 : decode cX9_told 44 = .ok (.iload_n 1, 1) := dX9_told_k101.2.2.2.1
theorem dX9_told_45 : decode cX9_told 45 = .ok (.sipush 1000, 3) := dX9_told_k101.2.2.2.2.1
theorem dX9_told_48 : decode cX9_told 48 = .ok (.irem, 1) := dX9_told_k101.2.2.2.2.2
set_option maxRecDepth 100000 in
theorem dX9_told_k102 : (decode cX9_told 49 = .ok (.iadd, 1)) ∧ (decode cX9_told 50 = .ok (.iaload, 1)) ∧ (decode cX9_told 51 = .ok (.bipush 10, 2)) ∧ (decode cX9_told 53 = .ok (.iadd, 1)) ∧ (decode cX9_told 54 = .ok (.goto 5, 3)) ∧ (decode cX9_told 57 = .ok (.bipush (-2), 2)) := by decide +kernel
theorem dX9_told_49 : decode cX9_told 49 = .ok (.iadd, 1) := dX9_told_k102.1
theorem dX9_told_50 : decode cX9_told 50 = .ok (.iaload, 1) := dX9_told_k102.2.1
theorem dX9_told_51 : decode cX9_told 51 = .ok (.bipush 10, 2) := dX9_told_k102.2.2.1
theorem dX9_told_53 : decode cX9_told 53 = .ok (.iadd, 1) := dX9_told_k102.2.2.2.1
theorem dX9_told_54 : decode cX9_told 54 = .ok (.goto 5, 3) := dX9_told_k102.2.2.2.2.1
theorem dX9_told_57 : decode cX9_told 57 = .ok (.bipush (-2), 2) := dX9_told_k102.2.2.2.2.2
set_option maxRecDepth 100000 in
theorem dX9_told_k103 : (decode cX9_told 59 = .ok (.ireturn, 1)) ∧ (decode cX9_told 60 = .ok (.iload_n 1, 1)) ∧ (decode cX9_told 61 = .ok (.bipush 100, 2)) ∧ (decode cX9_told 63 = .ok (.if_icmp .lt 57, 3)) ∧ (decode cX9_told 66 = .ok (.iload_n 1, 1)) ∧ (decode cX9_told 67 = .ok (.bipush 100, 2)) := by decide +kernel
theorem dX9_told_59 : decode cX9_told 59 = .ok (.ireturn, 1) := dX9_told_k103.1
theorem dX9_told_60 : decode cX9_told 60 = .ok (.iload_n 1, 1) := dX9_told_k103.2.1
theorem dX9_told_61 : decode cX9_told 61 = .ok (.bipush 100, 2) := dX9_told_k103.2.2.1
theorem dX9_told_63 : decode cX9_told 63 = .ok (.if_icmp .lt 57, 3) := dX9_told_k103.2.2.2.1
theorem dX9_told_66 : decode cX9_told 66 = .ok (.iload_n 1, 1) := dX9_told_k103.2.2.2.2.1
theorem dX9_told_67 : decode cX9_told 67 = .ok (.bipush 100, 2) := dX9_told_k103.2.2.2.2.2
set_option maxRecDepth 100000 in
theorem dX9_told_k104 : (decode cX9_told 69 = .ok (.idiv, 1)) ∧ (decode cX9_told 70 = .ok (.iconst 1, 1)) ∧ (decode cX9_told 71 = .ok (.isub, 1)) ∧ (decode cX9_told 72 = .ok (.istore_n 3, 1)) ∧ (decode cX9_told 73 = .ok (.aload_n 0, 1)) ∧ (decode cX9_told 74 = .ok (.iload_n 3, 1)) := by decide +kernel
theorem dX9_told_69 : decode cX9_told 69 = .ok (.idiv, 1) := dX9_told_k104.1
theorem dX9_told_70 : decode cX9_told 70 = .ok (.iconst 1, 1) := dX9_told_k104.2.1
theorem dX9_told_71 : decode cX9_told 71 = .ok (.isub, 1) := dX9_told_k104.2.2.1
theorem dX9_told_72 : decode cX9_told 72 = .ok (.istore_n 3, 1) := dX9_told_k104.2.2.2.1
theorem dX9_told_73 : decode cX9_told 73 = .ok (.aload_n 0, 1) := dX9_told_k104.2.2.2.2.1
theorem dX9_told_74 : decode cX9_told 74 = .ok (.iload_n 3, 1) := dX9_told_k104.2.2.2.2.2
set_option maxRecDepth 100000 in
theorem dX9_told_k105 : (decode cX9_told 75 = .ok (.invokevirtual 102, 3)) ∧ (decode cX9_told 78 = .ok (.ifCond .eq 39, 3)) ∧ (decode cX9_told 81 = .ok (.aload_n 0, 1)) ∧ (decode cX9_told 82 = .ok (.iload_n 1, 1)) ∧ (decode cX9_told 83 = .ok (.bipush 100, 2)) ∧ (decode cX9_told 85 = .ok (.irem, 1)) := by decide +kernel
theorem dX9_told_75 : decode cX9_told 75 = .ok (.invokevirtual 102, 3) := dX9_told_k105.1
theorem dX9_told_78 : decode cX9_told 78 = .ok (.ifCond .eq 39, 3) := dX9_told_k105.2.1
theorem dX9_told_81 : decode cX9_told 81 = .ok (.aload_n 0, 1) := dX9_told_k105.2.2.1
theorem dX9_told_82 : decode cX9_told 82 = .ok (.iload_n 1, 1) := dX9_told_k105.2.2.2.1
theorem dX9_told_83 : decode cX9_told 83 = .ok (.bipush 100, 2) := dX9_told_k105.2.2.2.2.1
theorem dX9_told_85 : decode cX9_told 85 = .ok (.irem, 1) := dX9_told_k105.2.2.2.2.2
set_option maxRecDepth 100000 in
theorem dX9_told_k106 : (decode cX9_told 86 = .ok (.invokevirtual 102, 3)) ∧ (decode cX9_told 89 = .ok (.ifCond .eq 28, 3)) ∧ (decode cX9_told 92 = .ok (.iload_n 3, 1)) ∧ (decode cX9_told 93 = .ok (.iload_n 1, 1)) ∧ (decode cX9_told 94 = .ok (.bipush 100, 2)) ∧ (decode cX9_told 96 = .ok (.irem, 1)) := by decide +kernel
theorem dX9_told_86 : decode cX9_told 86 = .ok (.invokevirtual 102, 3) := dX9_told_k106.1
theorem dX9_told_89 : decode cX9_told 89 = .ok (.ifCond .eq 28, 3) := dX9_told_k106.2.1
theorem dX9_told_92 : decode cX9_told 92 = .ok (.iload_n 3, 1) := dX9_told_k106.2.2.1
theorem dX9_told_93 : decode cX9_told 93 = .ok (.iload_n 1, 1) := dX9_told_k106.2.2.2.1
theorem dX9_told_94 : decode cX9_told 94 = .ok (.bipush 100, 2) := dX9_told_k106.2.2.2.2.1
theorem dX9_told_96 : decode cX9_told 96 = .ok (.irem, 1) := dX9_told_k106.2.2.2.2.2
set_option maxRecDepth 100000 in
theorem dX9_told_k107 : (decode cX9_told 97 = .ok (.if_icmp .eq 20, 3)) ∧ (decode cX9_told 100 = .ok (.aload_n 0, 1)) ∧ (decode cX9_told 101 = .ok (.getfield 23, 3)) ∧ (decode cX9_told 104 = .ok (.bipush 6, 2)) ∧ (decode cX9_told 106 = .ok (.iload_n 3, 1)) ∧ (decode cX9_told 107 = .ok (.imul, 1)) := by decide +kernel
theorem dX9_told_97 : decode cX9_told 97 = .ok (.if_icmp .eq 20, 3) := dX9_told_k107.1
theorem dX9_told_100 : decode cX9_told 100 = .ok (.aload_n 0, 1) := dX9_told_k107.2.1
theorem dX9_told_101 : decode cX9_told 101 = .ok (.getfield 23, 3) := dX9_told_k107.2.2.1
theorem dX9_told_104 : decode cX9_told 104 = .ok (.bipush 6, 2) := dX9_told_k107.2.2.2.1
theorem dX9_told_106 : decode cX9_told 106 = .ok (.iload_n 3, 1) := dX9_told_k107.2.2.2.2.1
theorem dX9_told_107 : decode cX9_told 107 = .ok (.imul, 1) := dX9_told_k107.2.2.2.2.2
set_option maxRecDepth 100000 in
theorem dX9_told_k108 : (decode cX9_told 108 = .ok (.iload_n 1, 1)) ∧ (decode cX9_told 109 = .ok (.bipush 100, 2)) ∧ (decode cX9_told 111 = .ok (.irem, 1)) ∧ (decode cX9_told 112 = .ok (.iadd, 1)) ∧ (decode cX9_told 113 = .ok (.iaload, 1)) ∧ (decode cX9_told 114 = .ok (.goto 5, 3)) := by decide +kernel
theorem dX9_told_108 : decode cX9_told 108 = .ok (.iload_n 1, 1) := dX9_told_k108.1
theorem dX9_told_109 : decode cX9_told 109 = .ok (.bipush 100, 2) := dX9_told_k108.2.1
theorem dX9_told_111 : decode cX9_told 111 = .ok (.irem, 1) := dX9_told_k108.2.2.1
theorem dX9_told_112 : decode cX9_told 112 = .ok (.iadd, 1) := dX9_told_k108.2.2.2.1
theorem dX9_told_113 : decode cX9_told 113 = .ok (.iaload, 1) := dX9_told_k108.2.2.2.2.1
theorem dX9_told_114 : decode cX9_told 114 = .ok (.goto 5, 3) := dX9_told_k108.2.2.2.2.2
set_option maxRecDepth 100000 in
theorem dX9_told_k109 : (decode cX9_told 117 = .ok (.bipush (-2), 2)) ∧ (decode cX9_told 119 = .ok (.ireturn, 1)) ∧ (decode cX9_told 120 = .ok (.iload_n 1, 1)) ∧ (decode cX9_told 121 = .ok (.bipush 10, 2)) ∧ (decode cX9_told 123 = .ok (.if_icmp .lt 67, 3)) ∧ (decode cX9_told 126 = .ok (.iload_n 1, 1)) := by decide +kernel
theorem dX9_told_117 : decode cX9_told 117 = .ok (.bipush (-2), 2) := dX9_told_k109.1
theorem dX9_told_119 : decode cX9_told 119 = .ok (.ireturn, 1) := dX9_told_k109.2.1
theorem dX9_told_120 : decode cX9_told 120 = .ok (.iload_n 1, 1) := dX9_told_k109.2.2.1
theorem dX9_told_121 : decode cX9_told 121 = .ok (.bipush 10, 2) := dX9_told_k109.2.2.2.1
theorem dX9_told_123 : decode cX9_told 123 = .ok (.if_icmp .lt 67, 3) := dX9_told_k109.2.2.2.2.1
theorem dX9_told_126 : decode cX9_told 126 = .ok (.iload_n 1, 1) := dX9_told_k109.2.2.2.2.2
set_option maxRecDepth 100000 in
theorem dX9_told_k110 : (decode cX9_told 127 = .ok (.bipush 10, 2)) ∧ (decode cX9_told 129 = .ok (.idiv, 1)) ∧ (decode cX9_told 130 = .ok (.iconst 1, 1)) ∧ (decode cX9_told 131 = .ok (.isub, 1)) ∧ (decode cX9_told 132 = .ok (.istore_n 3, 1)) ∧ (decode cX9_told 133 = .ok (.aload_n 0, 1)) := by decide +kernel
theorem dX9_told_127 : decode cX9_told 127 = .ok (.bipush 10, 2) := dX9_told_k110.1
theorem dX9_told_129 : decode cX9_told 129 = .ok (.idiv, 1) := dX9_told_k110.2.1
theorem dX9_told_130 : decode cX9_told 130 = .ok (.iconst 1, 1) := dX9_told_k110.2.2.1
theorem dX9_told_131 : decode cX9_told 131 = .ok (.isub, 1) := dX9_told_k110.2.2.2.1
theorem dX9_told_132 : decode cX9_told 132 = .ok (.istore_n 3, 1) := dX9_told_k110.2.2.2.2.1
theorem dX9_told_133 : decode cX9_told 133 = .ok (.aload_n 0, 1) := dX9_told_k110.2.2.2.2.2
set_option maxRecDepth 100000 in
theorem dX9_told_k111 : (decode cX9_told 134 = .ok (.iload_n 3, 1)) ∧ (decode cX9_told 135 = .ok (.invokevirtual 102, 3)) ∧ (decode cX9_told 138 = .ok (.ifCond .eq 8, 3)) ∧ (decode cX9_told 141 = .ok (.iload_n 2, 1)) ∧ (decode cX9_told 142 = .ok (.iconst 5, 1)) ∧ (decode cX9_told 143 = .ok (.if_icmp .le 8, 3)) := by decide +kernel
theorem dX9_told_134 : decode cX9_told 134 = .ok (.iload_n 3, 1) := dX9_told_k111.1
theorem dX9_told_135 : decode cX9_told 135 = .ok (.invokevirtual 102, 3) := dX9_told_k111.2.1
theorem dX9_told_138 : decode cX9_told 138 = .ok (.ifCond .eq 8, 3) := dX9_told_k111.2.2.1
theorem dX9_told_141 : decode cX9_told 141 = .ok (.iload_n 2, 1) := dX9_told_k111.2.2.2.1
theorem dX9_told_142 : decode cX9_told 142 = .ok (.iconst 5, 1) := dX9_told_k111.2.2.2.2.1
theorem dX9_told_143 : decode cX9_told 143 = .ok (.if_icmp .le 8, 3) := dX9_told_k111.2.2.2.2.2
set_option maxRecDepth 100000 in
theorem dX9_told_k112 : (decode cX9_told 146 = .ok (.bipush (-2), 2)) ∧ (decode cX9_told 148 = .ok (.goto 41, 3)) ∧ (decode cX9_told 151 = .ok (.iload_n 2, 1)) ∧ (decode cX9_told 152 = .ok (.iconst 4, 1)) ∧ (decode cX9_told 153 = .ok (.if_icmp .ge 16, 3)) ∧ (decode cX9_told 156 = .ok (.aload_n 0, 1)) := by decide +kernel
theorem dX9_told_146 : decode cX9_told 146 = .ok (.bipush (-2), 2) := dX9_told_k112.1
theorem dX9_told_148 : decode cX9_told 148 = .ok (.goto 41, 3) := dX9_told_k112.2.1
theorem dX9_told_151 : decode cX9_told 151 = .ok (.iload_n 2, 1) := dX9_told_k112.2.2.1
theorem dX9_told_152 : decode cX9_told 152 = .ok (.iconst 4, 1) := dX9_told_k112.2.2.2.1
theorem dX9_told_153 : decode cX9_told 153 = .ok (.if_icmp .ge 16, 3) := dX9_told_k112.2.2.2.2.1
theorem dX9_told_156 : decode cX9_told 156 = .ok (.aload_n 0, 1) := dX9_told_k112.2.2.2.2.2
set_option maxRecDepth 100000 in
theorem dX9_told_k113 : (decode cX9_told 157 = .ok (.getfield 13, 3)) ∧ (decode cX9_told 160 = .ok (.iconst 4, 1)) ∧ (decode cX9_told 161 = .ok (.iload_n 3, 1)) ∧ (decode cX9_told 162 = .ok (.imul, 1)) ∧ (decode cX9_told 163 = .ok (.iload_n 2, 1)) ∧ (decode cX9_told 164 = .ok (.iadd, 1)) := by decide +kernel
theorem dX9_told_157 : decode cX9_told 157 = .ok (.getfield 13, 3) := dX9_told_k113.1
theorem dX9_told_160 : decode cX9_told 160 = .ok (.iconst 4, 1) := dX9_told_k113.2.1
theorem dX9_told_161 : decode cX9_told 161 = .ok (.iload_n 3, 1) := dX9_told_k113.2.2.1
theorem dX9_told_162 : decode cX9_told 162 = .ok (.imul, 1) := dX9_told_k113.2.2.2.1
theorem dX9_told_163 : decode cX9_told 163 = .ok (.iload_n 2, 1) := dX9_told_k113.2.2.2.2.1
theorem dX9_told_164 : decode cX9_told 164 = .ok (.iadd, 1) := dX9_told_k113.2.2.2.2.2
set_option maxRecDepth 100000 in
theorem dX9_told_k114 : (decode cX9_told 165 = .ok (.iaload, 1)) ∧ (decode cX9_told 166 = .ok (.goto 23, 3)) ∧ (decode cX9_told 169 = .ok (.iload_n 2, 1)) ∧ (decode cX9_told 170 = .ok (.iconst 4, 1)) ∧ (decode cX9_told 171 = .ok (.if_icmp .ne 12, 3)) ∧ (decode cX9_told 174 = .ok (.aload_n 0, 1)) := by decide +kernel
theorem dX9_told_165 : decode cX9_told 165 = .ok (.iaload, 1) := dX9_told_k114.1
theorem dX9_told_166 : decode cX9_told 166 = .ok (.goto 23, 3) := dX9_told_k114.2.1
theorem dX9_told_169 : decode cX9_told 169 = .ok (.iload_n 2, 1) := dX9_told_k114.2.2.1
theorem dX9_told_170 : decode cX9_told 170 = .ok (.iconst 4, 1) := dX9_told_k114.2.2.2.1
theorem dX9_told_171 : decode cX9_told 171 = .ok (.if_icmp .ne 12, 3) := dX9_told_k114.2.2.2.2.1
theorem dX9_told_174 : decode cX9_told 174 = .ok (.aload_n 0, 1) := dX9_told_k114.2.2.2.2.2
set_option maxRecDepth 100000 in
theorem dX9_told_k115 : (decode cX9_told 175 = .ok (.getfield 17, 3)) ∧ (decode cX9_told 178 = .ok (.iload_n 3, 1)) ∧ (decode cX9_told 179 = .ok (.iaload, 1)) ∧ (decode cX9_told 180 = .ok (.goto 9, 3)) ∧ (decode cX9_told 183 = .ok (.aload_n 0, 1)) ∧ (decode cX9_told 184 = .ok (.getfield 20, 3)) := by decide +kernel
theorem dX9_told_175 : decode cX9_told 175 = .ok (.getfield 17, 3) := dX9_told_k115.1
theorem dX9_told_178 : decode cX9_told 178 = .ok (.iload_n 3, 1) := dX9_told_k115.2.1
theorem dX9_told_179 : decode cX9_told 179 = .ok (.iaload, 1) := dX9_told_k115.2.2.1
theorem dX9_told_180 : decode cX9_told 180 = .ok (.goto 9, 3) := dX9_told_k115.2.2.2.1
theorem dX9_told_183 : decode cX9_told 183 = .ok (.aload_n 0, 1) := dX9_told_k115.2.2.2.2.1
theorem dX9_told_184 : decode cX9_told 184 = .ok (.getfield 20, 3) := dX9_told_k115.2.2.2.2.2
set_option maxRecDepth 100000 in
theorem dX9_told_k116 : (decode cX9_told 187 = .ok (.iload_n 3, 1)) ∧ (decode cX9_told 188 = .ok (.iaload, 1)) ∧ (decode cX9_told 189 = .ok (.ireturn, 1)) ∧ (decode cX9_told 190 = .ok (.iload_n 1, 1)) ∧ (decode cX9_told 191 = .ok (.tableswitch 40 0 2 #[25, 30, 35], 25)) ∧ (decode cX9_told 216 = .ok (.aload_n 0, 1)) := by decide +kernel
theorem dX9_told_187 : decode cX9_told 187 = .ok (.iload_n 3, 1) := dX9_told_k116.1
theorem dX9_told_188 : decode cX9_told 188 = .ok (.iaload, 1) := dX9_told_k116.2.1
theorem dX9_told_189 : decode cX9_told 189 = .ok (.ireturn, 1) := dX9_told_k116.2.2.1
theorem dX9_told_190 : decode cX9_told 190 = .ok (.iload_n 1, 1) := dX9_told_k116.2.2.2.1
theorem dX9_told_191 : decode cX9_told 191 = .ok (.tableswitch 40 0 2 #[25, 30, 35], 25) := dX9_told_k116.2.2.2.2.1
theorem dX9_told_216 : decode cX9_told 216 = .ok (.aload_n 0, 1) := dX9_told_k116.2.2.2.2.2
set_option maxRecDepth 100000 in
theorem dX9_told_k117 : (decode cX9_told 217 = .ok (.getfield 124, 3)) ∧ (decode cX9_told 220 = .ok (.ireturn, 1)) ∧ (decode cX9_told 221 = .ok (.aload_n 0, 1)) ∧ (decode cX9_told 222 = .ok (.getfield 7, 3)) ∧ (decode cX9_told 225 = .ok (.ireturn, 1)) ∧ (decode cX9_told 226 = .ok (.aload_n 0, 1)) := by decide +kernel
theorem dX9_told_217 : decode cX9_told 217 = .ok (.getfield 124, 3) := dX9_told_k117.1
theorem dX9_told_220 : decode cX9_told 220 = .ok (.ireturn, 1) := dX9_told_k117.2.1
theorem dX9_told_221 : decode cX9_told 221 = .ok (.aload_n 0, 1) := dX9_told_k117.2.2.1
theorem dX9_told_222 : decode cX9_told 222 = .ok (.getfield 7, 3) := dX9_told_k117.2.2.2.1
theorem dX9_told_225 : decode cX9_told 225 = .ok (.ireturn, 1) := dX9_told_k117.2.2.2.2.1
theorem dX9_told_226 : decode cX9_told 226 = .ok (.aload_n 0, 1) := dX9_told_k117.2.2.2.2.2
set_option maxRecDepth 100000 in
theorem dX9_told_k118 : (decode cX9_told 227 = .ok (.getfield 88, 3)) ∧ (decode cX9_told 230 = .ok (.ireturn, 1)) ∧ (decode cX9_told 231 = .ok (.iload_n 1, 1)) ∧ (decode cX9_told 232 = .ok (.iconst 3, 1)) ∧ (decode cX9_told 233 = .ok (.if_icmp .ne 10, 3)) ∧ (decode cX9_told 236 = .ok (.aload_n 0, 1)) := by decide +kernel
theorem dX9_told_227 : decode cX9_told 227 = .ok (.getfield 88, 3) := dX9_told_k118.1
theorem dX9_told_230 : decode cX9_told 230 = .ok (.ireturn, 1) := dX9_told_k118.2.1
theorem dX9_told_231 : decode cX9_told 231 = .ok (.iload_n 1, 1) := dX9_told_k118.2.2.1
theorem dX9_told_232 : decode cX9_told 232 = .ok (.iconst 3, 1) := dX9_told_k118.2.2.2.1
theorem dX9_told_233 : decode cX9_told 233 = .ok (.if_icmp .ne 10, 3) := dX9_told_k118.2.2.2.2.1
theorem dX9_told_236 : decode cX9_told 236 = .ok (.aload_n 0, 1) := dX9_told_k118.2.2.2.2.2
set_option maxRecDepth 100000 in
theorem dX9_told_k119 : (decode cX9_told 237 = .ok (.getfield 91, 3)) ∧ (decode cX9_told 240 = .ok (.goto 5, 3)) ∧ (decode cX9_told 243 = .ok (.bipush (-2), 2)) ∧ (decode cX9_told 245 = .ok (.ireturn, 1)) := by decide +kernel
theorem dX9_told_237 : decode cX9_told 237 = .ok (.getfield 91, 3) := dX9_told_k119.1
theorem dX9_told_240 : decode cX9_told 240 = .ok (.goto 5, 3) := dX9_told_k119.2.1
theorem dX9_told_243 : decode cX9_told 243 = .ok (.bipush (-2), 2) := dX9_told_k119.2.2.1
theorem dX9_told_245 : decode cX9_told 245 = .ok (.ireturn, 1) := dX9_told_k119.2.2.2
